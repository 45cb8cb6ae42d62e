section LWS
variable {G : GG} {p : Program} {l : Launch} {e : Env} {s : State} {m : MethodId} {args : Array Value} {below : List Frame} {meth : Method} {c : Code} {Q : State → Prop} {nm9 : String} {w : Wd} {k z pc : Nat} {ll : List (Option Value)} {st : List Value} {b L : Nat} {xs : Nat → Int32} {bk mo o : Nat} {n i c0 : Int} {f : Int → Int}
set_option maxRecDepth 100000 in
set_option maxHeartbeats 1000000 in
theorem case_wire (C : Cx G p s m args meth c ⟨RL, nm9, ""⟩ cL_law 8 (some .boolean) wsL_law) (hfl : l.stackTraces = false) (hX : va_X b L xs s (gH G)) (hbN : b < gN G) (hL3 : L ≤ 3584) (hi : 0 ≤ i ∧ i + 7 ≤ (L : Int)) (hL : LI G w bk mo o n c0 f k z) (hn : n < 512) (next : ∀ (w' : Wd) (c' : Int) (f' : Int → Int) (k' z' : Nat), LI G w' bk mo o (n + 1) c' f' k' z' → V G p l e room_1 s m args below meth c Q w' k' z' 1048 [some (.ref b), some (.ref bk), some (.ref mo), some (.ref o), some (.int (iI i)), none, none, none] []) : V G p l e room_1 s m args below meth c Q w k z 120 [some (.ref b), some (.ref bk), some (.ref mo), some (.ref o), some (.int (iI i)), none, none, none] [] := by
  have hts := C.2.2.2.2.1
  obtain ⟨mc, ms, P, hfit, hM, hN⟩ := J_wire hfl hL hn (scI_r xs (i + 1))
  refine v_aload_n C dL_law_120 rfl ?_
  refine v_aload_n C dL_law_121 rfl ?_
  refine v_iload C dL_law_122 rfl ?_
  refine v_iconst C dL_law_124 ?_
  refine v_iadd C dL_law_125 ?_
  refine v_sld C hX hbN (⟨by omega, by omega⟩) (by omega) (by omega) dL_law_126 ?_
  refine v_aload_n C dL_law_127 rfl ?_
  refine v_callH C (b := 0) (t := 0) (ci := 0) (fs := []) (q := (RX7, TX7, 33)) (As := [_, _, _]) (rest := []) hM (vx_cwSW 3 hts gL_law_L_wire rfl rfl rfl (by decide +kernel) ⟨Nat.le_of_ble_eq_true rfl, Nat.le_of_ble_eq_true rfl⟩) rfl rfl (Nat.le_of_ble_eq_true rfl) dL_law_128 hfit.1 hfit.2 (fun x w1 hp => ?_)
  obtain ⟨⟨fs1, hmo1⟩, hx, hM2⟩ := hN x w1 hp
  refine v_istore C dL_law_131 bsl_8_5 (by decide) rfl ?_
  refine v_aload_n C dL_law_133 rfl ?_
  refine v_aload_n C dL_law_134 rfl ?_
  refine v_iload C dL_law_135 rfl ?_
  refine v_iconst C dL_law_137 ?_
  refine v_iadd C dL_law_138 ?_
  refine v_sld C hX hbN (⟨by omega, by omega⟩) (by omega) (by omega) dL_law_139 ?_
  refine v_callVi C (q := (RX7, TX7, 33)) (As := [_]) (rest := []) hM2 (cwV 1 hts gL_law_X7_wire rfl rfl rfl (by decide +kernel) ⟨Nat.le_of_ble_eq_true rfl, Nat.le_of_ble_eq_true rfl⟩) hmo1 rfl rfl rfl (Nat.le_of_ble_eq_true rfl) dL_law_140 hfit.1 hfit.2 (fun y w2 hp2 => ?_)
  obtain ⟨f9, hL2, hy⟩ := hp2
  obtain ⟨fs2, hmo2⟩ := hL2.hmo
  refine v_wide (k' := k + mc) (z' := z + ms) (Nat.le_refl _) (Nat.le_refl _) ?_
  rw [nrm_e y]
  refine v_istore C dL_law_143 bsl_8_6 (by decide) rfl ?_
  refine v_aload_n C dL_law_145 rfl ?_
  refine v_callVi C (q := (RX7, TX7, 33)) (As := []) (rest := []) hL2.th (cwV 0 hts gL_law_X7_thrown rfl rfl rfl (by decide +kernel) ⟨Nat.le_of_ble_eq_true rfl, Nat.le_of_ble_eq_true rfl⟩) hmo2 rfl rfl rfl (Nat.le_of_ble_eq_true rfl) dL_law_146 hfit.1 hfit.2 (fun t w3 hp3 => ?_)
  obtain ⟨rfl, rfl⟩ := hp3
  refine v_wide (k' := k + mc) (z' := z + ms) (Nat.le_refl _) (Nat.le_refl _) ?_
  refine v_iload C dL_law_149 rfl ?_
  refine v_icmp_eq C hx hx (tgt := 156) dL_law_151 (by decide) (fun _ => ?_) (fun q => absurd rfl q)
  refine v_iload C dL_law_156 rfl ?_
  refine v_if_ne C hx (tgt := 173) dL_law_158 (by decide) (fun _ => ?_) (fun hz => ?_)
  · refine v_goto C (tgt := 1048) dL_law_173 (by decide) ?_
    exact v_less (ll' := [some (.ref b), some (.ref bk), some (.ref mo), some (.ref o), some (.int (iI i)), none, none, none]) ⟨rfl, rfl, rfl, rfl, rfl, trivial⟩ (next _ _ _ _ _ hL2)
  · refine v_aload_n C dL_law_161 rfl ?_
    refine v_iconst C dL_law_162 ?_
    refine v_lald C hL2.out (⟨by decide, by decide⟩) (Int.le_refl _) (by decide) dL_law_163 ?_
    rw [hy hz]
    refine v_iload C dL_law_164 rfl ?_
    refine v_i2l C (nrm_r y) dL_law_166 ?_
    refine v_lcmp_eq C (⟨by have := (nrm_r y).1; omega, by have := (nrm_r y).2; omega⟩) (⟨by have := (nrm_r y).1; omega, by have := (nrm_r y).2; omega⟩) (tgt := 173) dL_law_167 dL_law_168 (by decide) (fun _ => ?_) (fun q => absurd rfl q)
    refine v_goto C (tgt := 1048) dL_law_173 (by decide) ?_
    exact v_less (ll' := [some (.ref b), some (.ref bk), some (.ref mo), some (.ref o), some (.int (iI i)), none, none, none]) ⟨rfl, rfl, rfl, rfl, rfl, trivial⟩ (next _ _ _ _ _ hL2)
set_option maxRecDepth 100000 in
set_option maxHeartbeats 1000000 in
theorem case_wires (C : Cx G p s m args meth c ⟨RL, nm9, ""⟩ cL_law 8 (some .boolean) wsL_law) (hfl : l.stackTraces = false) (hX : va_X b L xs s (gH G)) (hbN : b < gN G) (hL3 : L ≤ 3584) (hi : 0 ≤ i ∧ i + 7 ≤ (L : Int)) (hL : LI G w bk mo o n c0 f k z) (hn : n < 512) (next : ∀ (w' : Wd) (c' : Int) (f' : Int → Int) (k' z' : Nat), LI G w' bk mo o (n + 1) c' f' k' z' → V G p l e room_1 s m args below meth c Q w' k' z' 1048 [some (.ref b), some (.ref bk), some (.ref mo), some (.ref o), some (.int (iI i)), none, none, none] []) : V G p l e room_1 s m args below meth c Q w k z 176 [some (.ref b), some (.ref bk), some (.ref mo), some (.ref o), some (.int (iI i)), none, none, none] [] := by
  have hts := C.2.2.2.2.1
  obtain ⟨mc, ms, P, hfit, hM, hN⟩ := J_wires hL hn
  refine v_aload_n C dL_law_176 rfl ?_
  obtain ⟨fs0, hbk⟩ := hL.hbk
  refine v_callVi C (q := (RX6, TX6, 6)) (As := []) (rest := []) hM (cwV 0 hts gL_law_X6_wires rfl rfl rfl (by decide +kernel) ⟨Nat.le_of_ble_eq_true rfl, Nat.le_of_ble_eq_true rfl⟩) hbk rfl rfl rfl (Nat.le_of_ble_eq_true rfl) dL_law_177 hfit.1 hfit.2 (fun x w1 hp => ?_)
  obtain ⟨⟨fs1, hmo1⟩, hx, hM2⟩ := hN x w1 hp
  refine v_aload_n C dL_law_180 rfl ?_
  refine v_callVi C (q := (RX7, TX7, 33)) (As := []) (rest := [_]) hM2 (cwV 0 hts gL_law_X7_wires rfl rfl rfl (by decide +kernel) ⟨Nat.le_of_ble_eq_true rfl, Nat.le_of_ble_eq_true rfl⟩) hmo1 rfl rfl rfl (Nat.le_of_ble_eq_true rfl) dL_law_181 hfit.1 hfit.2 (fun y w2 hp2 => ?_)
  obtain ⟨rfl, c9, f9, hL2⟩ := hp2
  refine v_wide (k' := k + mc) (z' := z + ms) (Nat.le_refl _) (Nat.le_refl _) ?_
  refine v_icmp_eq C hx hx (tgt := 1048) dL_law_184 (by decide) (fun _ => ?_) (fun q => absurd rfl q)
  exact v_less (ll' := [some (.ref b), some (.ref bk), some (.ref mo), some (.ref o), some (.int (iI i)), none, none, none]) ⟨rfl, rfl, rfl, rfl, rfl, trivial⟩ (next _ _ _ _ _ hL2)
set_option maxRecDepth 100000 in
set_option maxHeartbeats 1000000 in
theorem case_width (C : Cx G p s m args meth c ⟨RL, nm9, ""⟩ cL_law 8 (some .boolean) wsL_law) (hfl : l.stackTraces = false) (hX : va_X b L xs s (gH G)) (hbN : b < gN G) (hL3 : L ≤ 3584) (hi : 0 ≤ i ∧ i + 7 ≤ (L : Int)) (hL : LI G w bk mo o n c0 f k z) (hn : n < 512) (next : ∀ (w' : Wd) (c' : Int) (f' : Int → Int) (k' z' : Nat), LI G w' bk mo o (n + 1) c' f' k' z' → V G p l e room_1 s m args below meth c Q w' k' z' 1048 [some (.ref b), some (.ref bk), some (.ref mo), some (.ref o), some (.int (iI i)), none, none, none] []) : V G p l e room_1 s m args below meth c Q w k z 189 [some (.ref b), some (.ref bk), some (.ref mo), some (.ref o), some (.int (iI i)), none, none, none] [] := by
  have hts := C.2.2.2.2.1
  obtain ⟨mc, ms, P, hfit, hM, hN⟩ := J_width hfl hL hn (scI_r xs (i + 1))
  refine v_aload_n C dL_law_189 rfl ?_
  refine v_aload_n C dL_law_190 rfl ?_
  refine v_iload C dL_law_191 rfl ?_
  refine v_iconst C dL_law_193 ?_
  refine v_iadd C dL_law_194 ?_
  refine v_sld C hX hbN (⟨by omega, by omega⟩) (by omega) (by omega) dL_law_195 ?_
  refine v_aload_n C dL_law_196 rfl ?_
  refine v_callH C (b := 0) (t := 0) (ci := 0) (fs := []) (q := (RX7, TX7, 33)) (As := [_, _, _]) (rest := []) hM (vx_cwSW 3 hts gL_law_L_width rfl rfl rfl (by decide +kernel) ⟨Nat.le_of_ble_eq_true rfl, Nat.le_of_ble_eq_true rfl⟩) rfl rfl (Nat.le_of_ble_eq_true rfl) dL_law_197 hfit.1 hfit.2 (fun x w1 hp => ?_)
  obtain ⟨⟨fs1, hmo1⟩, hx, hM2⟩ := hN x w1 hp
  refine v_istore C dL_law_200 bsl_8_5 (by decide) rfl ?_
  refine v_aload_n C dL_law_202 rfl ?_
  refine v_aload_n C dL_law_203 rfl ?_
  refine v_iload C dL_law_204 rfl ?_
  refine v_iconst C dL_law_206 ?_
  refine v_iadd C dL_law_207 ?_
  refine v_sld C hX hbN (⟨by omega, by omega⟩) (by omega) (by omega) dL_law_208 ?_
  refine v_callVi C (q := (RX7, TX7, 33)) (As := [_]) (rest := []) hM2 (cwV 1 hts gL_law_X7_width rfl rfl rfl (by decide +kernel) ⟨Nat.le_of_ble_eq_true rfl, Nat.le_of_ble_eq_true rfl⟩) hmo1 rfl rfl rfl (Nat.le_of_ble_eq_true rfl) dL_law_209 hfit.1 hfit.2 (fun y w2 hp2 => ?_)
  obtain ⟨f9, hL2, hy⟩ := hp2
  obtain ⟨fs2, hmo2⟩ := hL2.hmo
  refine v_wide (k' := k + mc) (z' := z + ms) (Nat.le_refl _) (Nat.le_refl _) ?_
  rw [nrm_e y]
  refine v_istore C dL_law_212 bsl_8_6 (by decide) rfl ?_
  refine v_aload_n C dL_law_214 rfl ?_
  refine v_callVi C (q := (RX7, TX7, 33)) (As := []) (rest := []) hL2.th (cwV 0 hts gL_law_X7_thrown rfl rfl rfl (by decide +kernel) ⟨Nat.le_of_ble_eq_true rfl, Nat.le_of_ble_eq_true rfl⟩) hmo2 rfl rfl rfl (Nat.le_of_ble_eq_true rfl) dL_law_215 hfit.1 hfit.2 (fun t w3 hp3 => ?_)
  obtain ⟨rfl, rfl⟩ := hp3
  refine v_wide (k' := k + mc) (z' := z + ms) (Nat.le_refl _) (Nat.le_refl _) ?_
  refine v_iload C dL_law_218 rfl ?_
  refine v_icmp_eq C hx hx (tgt := 225) dL_law_220 (by decide) (fun _ => ?_) (fun q => absurd rfl q)
  refine v_iload C dL_law_225 rfl ?_
  refine v_if_ne C hx (tgt := 242) dL_law_227 (by decide) (fun _ => ?_) (fun hz => ?_)
  · refine v_goto C (tgt := 1048) dL_law_242 (by decide) ?_
    exact v_less (ll' := [some (.ref b), some (.ref bk), some (.ref mo), some (.ref o), some (.int (iI i)), none, none, none]) ⟨rfl, rfl, rfl, rfl, rfl, trivial⟩ (next _ _ _ _ _ hL2)
  · refine v_aload_n C dL_law_230 rfl ?_
    refine v_iconst C dL_law_231 ?_
    refine v_lald C hL2.out (⟨by decide, by decide⟩) (Int.le_refl _) (by decide) dL_law_232 ?_
    rw [hy hz]
    refine v_iload C dL_law_233 rfl ?_
    refine v_i2l C (nrm_r y) dL_law_235 ?_
    refine v_lcmp_eq C (⟨by have := (nrm_r y).1; omega, by have := (nrm_r y).2; omega⟩) (⟨by have := (nrm_r y).1; omega, by have := (nrm_r y).2; omega⟩) (tgt := 242) dL_law_236 dL_law_237 (by decide) (fun _ => ?_) (fun q => absurd rfl q)
    refine v_goto C (tgt := 1048) dL_law_242 (by decide) ?_
    exact v_less (ll' := [some (.ref b), some (.ref bk), some (.ref mo), some (.ref o), some (.int (iI i)), none, none, none]) ⟨rfl, rfl, rfl, rfl, rfl, trivial⟩ (next _ _ _ _ _ hL2)
set_option maxRecDepth 100000 in
set_option maxHeartbeats 1000000 in
theorem case_open (C : Cx G p s m args meth c ⟨RL, nm9, ""⟩ cL_law 8 (some .boolean) wsL_law) (hfl : l.stackTraces = false) (hX : va_X b L xs s (gH G)) (hbN : b < gN G) (hL3 : L ≤ 3584) (hi : 0 ≤ i ∧ i + 7 ≤ (L : Int)) (hL : LI G w bk mo o n c0 f k z) (hn : n < 512) (next : ∀ (w' : Wd) (c' : Int) (f' : Int → Int) (k' z' : Nat), LI G w' bk mo o (n + 1) c' f' k' z' → V G p l e room_1 s m args below meth c Q w' k' z' 1048 [some (.ref b), some (.ref bk), some (.ref mo), some (.ref o), some (.int (iI i)), none, none, none] []) : V G p l e room_1 s m args below meth c Q w k z 245 [some (.ref b), some (.ref bk), some (.ref mo), some (.ref o), some (.int (iI i)), none, none, none] [] := by
  have hts := C.2.2.2.2.1
  obtain ⟨t1, ht1⟩ : ∃ z : Int, lI (scI xs (i + 1)) <<< ((iI 32).toInt64 &&& 63) = lI z := ⟨_, lI_of _⟩
  obtain ⟨t2, ht2⟩ : ∃ z : Int, lI (scI xs (i + 2)) &&& lI 4294967295 = lI z := ⟨_, lI_of _⟩
  obtain ⟨t9, ht3, ht9⟩ : ∃ z : Int, lI t1 ||| lI t2 = lI z ∧ R64 z := ⟨_, lI_of _, R64_of _⟩
  obtain ⟨s1, hs1⟩ : ∃ z : Int, lI (scI xs (i + 3)) <<< ((iI 32).toInt64 &&& 63) = lI z := ⟨_, lI_of _⟩
  obtain ⟨s2, hs2⟩ : ∃ z : Int, lI (scI xs (i + 4)) &&& lI 4294967295 = lI z := ⟨_, lI_of _⟩
  obtain ⟨s9, hs3, hs9⟩ : ∃ z : Int, lI s1 ||| lI s2 = lI z ∧ R64 z := ⟨_, lI_of _, R64_of _⟩
  obtain ⟨mc, ms, P, hfit, hM, hN⟩ := J_open hfl hL hn ht9 hs9
  refine v_aload_n C dL_law_245 rfl ?_
  refine v_aload_n C dL_law_246 rfl ?_
  refine v_iload C dL_law_247 rfl ?_
  refine v_iconst C dL_law_249 ?_
  refine v_iadd C dL_law_250 ?_
  refine v_sld C hX hbN (⟨by omega, by omega⟩) (by omega) (by omega) dL_law_251 ?_
  refine v_i2l C (scI_r _ _) dL_law_252 ?_
  refine v_bipush C dL_law_253 rfl ?_
  refine v_lshl C ht1 dL_law_255 ?_
  refine v_aload_n C dL_law_256 rfl ?_
  refine v_iload C dL_law_257 rfl ?_
  refine v_iconst C dL_law_259 ?_
  refine v_iadd C dL_law_260 ?_
  refine v_sld C hX hbN (⟨by omega, by omega⟩) (by omega) (by omega) dL_law_261 ?_
  refine v_i2l C (scI_r _ _) dL_law_262 ?_
  refine v_ldc2 C (v := 4294967295) (List.mem_of_getElem? (i := 7) rfl) (by decide +kernel) dL_law_263 ?_
  refine v_land C ht2 dL_law_266 ?_
  refine v_lor C ht3 dL_law_267 ?_
  refine v_aload_n C dL_law_268 rfl ?_
  refine v_iload C dL_law_269 rfl ?_
  refine v_iconst C dL_law_271 ?_
  refine v_iadd C dL_law_272 ?_
  refine v_sld C hX hbN (⟨by omega, by omega⟩) (by omega) (by omega) dL_law_273 ?_
  refine v_i2l C (scI_r _ _) dL_law_274 ?_
  refine v_bipush C dL_law_275 rfl ?_
  refine v_lshl C hs1 dL_law_277 ?_
  refine v_aload_n C dL_law_278 rfl ?_
  refine v_iload C dL_law_279 rfl ?_
  refine v_iconst C dL_law_281 ?_
  refine v_iadd C dL_law_282 ?_
  refine v_sld C hX hbN (⟨by omega, by omega⟩) (by omega) (by omega) dL_law_283 ?_
  refine v_i2l C (scI_r _ _) dL_law_284 ?_
  refine v_ldc2 C (v := 4294967295) (List.mem_of_getElem? (i := 7) rfl) (by decide +kernel) dL_law_285 ?_
  refine v_land C hs2 dL_law_288 ?_
  refine v_lor C hs3 dL_law_289 ?_
  refine v_callH C (b := 0) (t := 0) (ci := 0) (fs := []) (q := (RX7, TX7, 33)) (As := [_, _, _]) (rest := []) hM (vx_cwSW 3 hts gL_law_L_open rfl rfl rfl (by decide +kernel) ⟨Nat.le_of_ble_eq_true rfl, Nat.le_of_ble_eq_true rfl⟩) rfl rfl (Nat.le_of_ble_eq_true rfl) dL_law_290 hfit.1 hfit.2 (fun x w1 hp => ?_)
  obtain ⟨⟨fs1, hmo1⟩, hx, hM2⟩ := hN x w1 hp
  refine v_istore C dL_law_293 bsl_8_5 (by decide) rfl ?_
  refine v_aload_n C dL_law_295 rfl ?_
  refine v_aload_n C dL_law_296 rfl ?_
  refine v_iload C dL_law_297 rfl ?_
  refine v_iconst C dL_law_299 ?_
  refine v_iadd C dL_law_300 ?_
  refine v_sld C hX hbN (⟨by omega, by omega⟩) (by omega) (by omega) dL_law_301 ?_
  refine v_i2l C (scI_r _ _) dL_law_302 ?_
  refine v_bipush C dL_law_303 rfl ?_
  refine v_lshl C ht1 dL_law_305 ?_
  refine v_aload_n C dL_law_306 rfl ?_
  refine v_iload C dL_law_307 rfl ?_
  refine v_iconst C dL_law_309 ?_
  refine v_iadd C dL_law_310 ?_
  refine v_sld C hX hbN (⟨by omega, by omega⟩) (by omega) (by omega) dL_law_311 ?_
  refine v_i2l C (scI_r _ _) dL_law_312 ?_
  refine v_ldc2 C (v := 4294967295) (List.mem_of_getElem? (i := 7) rfl) (by decide +kernel) dL_law_313 ?_
  refine v_land C ht2 dL_law_316 ?_
  refine v_lor C ht3 dL_law_317 ?_
  refine v_aload_n C dL_law_318 rfl ?_
  refine v_iload C dL_law_319 rfl ?_
  refine v_iconst C dL_law_321 ?_
  refine v_iadd C dL_law_322 ?_
  refine v_sld C hX hbN (⟨by omega, by omega⟩) (by omega) (by omega) dL_law_323 ?_
  refine v_i2l C (scI_r _ _) dL_law_324 ?_
  refine v_bipush C dL_law_325 rfl ?_
  refine v_lshl C hs1 dL_law_327 ?_
  refine v_aload_n C dL_law_328 rfl ?_
  refine v_iload C dL_law_329 rfl ?_
  refine v_iconst C dL_law_331 ?_
  refine v_iadd C dL_law_332 ?_
  refine v_sld C hX hbN (⟨by omega, by omega⟩) (by omega) (by omega) dL_law_333 ?_
  refine v_i2l C (scI_r _ _) dL_law_334 ?_
  refine v_ldc2 C (v := 4294967295) (List.mem_of_getElem? (i := 7) rfl) (by decide +kernel) dL_law_335 ?_
  refine v_land C hs2 dL_law_338 ?_
  refine v_lor C hs3 dL_law_339 ?_
  refine v_callVv C (q := (RX7, TX7, 33)) (As := [_, _]) (rest := []) hM2 (cwV 2 hts gL_law_X7_open rfl rfl rfl (by decide +kernel) ⟨Nat.le_of_ble_eq_true rfl, Nat.le_of_ble_eq_true rfl⟩) hmo1 rfl rfl rfl (Nat.le_of_ble_eq_true rfl) dL_law_340 hfit.1 hfit.2 (fun w2 hp2 => ?_)
  obtain ⟨f9, hL2⟩ := hp2
  obtain ⟨fs2, hmo2⟩ := hL2.hmo
  refine v_wide (k' := k + mc) (z' := z + ms) (Nat.le_refl _) (Nat.le_refl _) ?_
  refine v_aload_n C dL_law_343 rfl ?_
  refine v_callVi C (q := (RX7, TX7, 33)) (As := []) (rest := []) hL2.th (cwV 0 hts gL_law_X7_thrown rfl rfl rfl (by decide +kernel) ⟨Nat.le_of_ble_eq_true rfl, Nat.le_of_ble_eq_true rfl⟩) hmo2 rfl rfl rfl (Nat.le_of_ble_eq_true rfl) dL_law_344 hfit.1 hfit.2 (fun t w3 hp3 => ?_)
  obtain ⟨rfl, rfl⟩ := hp3
  refine v_wide (k' := k + mc) (z' := z + ms) (Nat.le_refl _) (Nat.le_refl _) ?_
  refine v_iload C dL_law_347 rfl ?_
  refine v_icmp_eq C hx hx (tgt := 354) dL_law_349 (by decide) (fun _ => ?_) (fun q => absurd rfl q)
  refine v_goto C (tgt := 1048) dL_law_354 (by decide) ?_
  exact v_less (ll' := [some (.ref b), some (.ref bk), some (.ref mo), some (.ref o), some (.int (iI i)), none, none, none]) ⟨rfl, rfl, rfl, rfl, rfl, trivial⟩ (next _ _ _ _ _ hL2)
end LWS
