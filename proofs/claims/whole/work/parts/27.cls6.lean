theorem bsl_2_1 {x0 x1 : Option Value} {v : Value} : stL [x0, x1] 1 v = [x0, some v] := rfl
section CR
variable {G : GG} {w w2 : Wd} {S : Nat → Prop}
/-- a row's object (tag T), its bytes (T + 1, T + 2), its list (T + 3, T + 4), its values (T + 5) -/
def RowR (G : GG) (w : Wd) (T r bt ml vk : Nat) (len cap : Int) (b : Int → Int) (n : Int) (M : Int → Nat) (vcap : Int) (vf : Int → Int) : Prop := w r = some (T, .inr (7, [.ref bt, .ref ml, .ref vk])) ∧ BytesAt G w (T + 1) bt len cap b ∧ ListAt G w (T + 3) ml n M ∧ w vk = some (T + 5, .inl (gB G, aI vcap vf)) ∧ (64 ≤ vcap ∧ vcap ≤ 25600) ∧ (∀ j, 0 ≤ j → j < vcap → 0 ≤ vf j ∧ vf j ≤ 8)
theorem RowR.fr {T r bt ml vk : Nat} {len cap : Int} {b : Int → Int} {n : Int} {M : Int → Nat} {vcap : Int} {vf : Int → Int} (h : RowR G w T r bt ml vk len cap b n M vcap vf) (hF : Fr S w w2) (h0 : ¬ S T) (h1 : ¬ S (T + 1)) (h2 : ¬ S (T + 2)) (h3 : ¬ S (T + 3)) (h4 : ¬ S (T + 4)) (h5 : ¬ S (T + 5)) : RowR G w2 T r bt ml vk len cap b n M vcap vf :=
  ⟨hF _ _ _ h0 h.1, h.2.1.fr hF h1 h2, h.2.2.1.fr hF h3 h4, hF _ _ _ h5 h.2.2.2.1, h.2.2.2.2⟩
theorem RowR.obj {T r bt ml vk : Nat} {len cap : Int} {b : Int → Int} {n : Int} {M : Int → Nat} {vcap : Int} {vf : Int → Int} (h : RowR G w T r bt ml vk len cap b n M vcap vf) : ∃ fs, w r = some (T, .inr (7, fs)) := ⟨_, h.1⟩
end CR
set_option maxRecDepth 100000 in
set_option maxHeartbeats 400000 in
theorem c_X4_init {G : GG} {l : Launch} {w : Wd} {r : Nat} {T : Nat} (h1 : w r = some (T, .inr (7, [.null, .null, .null]))) (hT : 0 < T) : MG G l yX4_init wsX4_init 4 160 (4) (133) [.ref r] w (pV (fun (w' : Wd) => ∃ bt ml vk, RowR G w' T r bt ml vk 0 64 (fun _ => 0) 0 (fun _ => 0) 64 (fun _ => 0) ∧ Fr (fun t => t = T ∨ t = T + 1 ∨ t = T + 2 ∨ t = T + 3 ∨ t = T + 4 ∨ t = T + 5 ∨ t = 0) w w')) := by
  refine MG.of (cc := cX4_init) (nL := 1) (ret := none) (ll := [some (.ref r)]) (by decide) rfl (Nat.le_of_ble_eq_true rfl) rfl ?_
  intro p e s m args below meth c C
  have hts := C.2.2.2.2.1
  have p12 : PutX G s m args meth 12 7 0 (.object "TraceBook$Bytes") := putX_of C 7 0 tyX4 tyX4_ok nmX4 (T := TX4) (N := 3) (Cn := RX4) (ref := "TraceBook$Row") rfl (by decide) (fun _ h => List.mem_cons_of_mem _ (List.mem_append_left _ (List.mem_append_right _ (h)))) (List.mem_of_getElem? (i := 7) rfl) (fun _ h => h) rfl rfl rfl (by decide +kernel)
  have p21 : PutX G s m args meth 21 7 1 (.object "java/util/ArrayList") := putX_of C 7 1 tyX4 tyX4_ok nmX4 (T := TX4) (N := 3) (Cn := RX4) (ref := "TraceBook$Row") rfl (by decide) (fun _ h => List.mem_cons_of_mem _ (List.mem_append_left _ (List.mem_append_right _ (h)))) (List.mem_of_getElem? (i := 11) rfl) (fun _ h => h) rfl rfl rfl (by decide +kernel)
  have p25 : PutF G s m args 25 7 2 (.array .byte) := putF_of C 7 2 tyX4 tyX4_ok nmX4 (T := TX4) (N := 3) (Cn := RX4) (ref := "TraceBook$Row") rfl (by decide) (fun _ h => List.mem_cons_of_mem _ (List.mem_append_left _ (List.mem_append_right _ (h)))) (List.mem_of_getElem? (i := 13) rfl) (fun _ h => h) rfl (by decide +kernel)
  refine poV (P := fun PO => V G p l e _ s m args below meth c (MQW G below args s _ _ (pV PO)) w 0 0 0 _ []) (fun PO hPO => ?_)
  obtain ⟨w0, hw0⟩ : ∃ z, z = w := ⟨_, rfl⟩
  rw [← hw0] at hPO
  have hF : Fr (fun t => t = T ∨ t = T + 1 ∨ t = T + 2 ∨ t = T + 3 ∨ t = T + 4 ∨ t = T + 5 ∨ t = 0) w0 w := by rw [hw0]; exact Fr.rf
  refine v_aload_n C dX4_init_0 rfl ?_
  refine v_objInit C (List.mem_of_getElem? (i := 1) rfl) (List.mem_of_getElem? (i := 2) rfl) (List.mem_of_getElem? (i := 3) rfl) (Nat.le_of_ble_eq_true rfl) (Nat.le_of_ble_eq_true rfl) dX4_init_1 ?_
  refine v_aload_n C dX4_init_4 rfl ?_
  refine v_new C (ci := 3) (T := TX0) (N := 2) (Cn := RX0) (fs := [.null, .int (iI 0)]) (T + 1) tyX0 tyX0_ok rfl (fun _ h => List.mem_cons_of_mem _ (List.mem_append_left _ (List.mem_append_left _ (List.mem_append_right _ (h))))) (List.mem_of_getElem? (i := 4) rfl) (List.mem_of_getElem? (i := 5) rfl) (List.mem_of_getElem? (i := 6) rfl) (fun j hj => by rcases (by omega : j = 0 ∨ j = 1) with rfl | rfl <;> rfl) (by dsimp only; omega) (by dsimp only; omega) dX4_init_5 (fun a5 ha5 => ?_)
  refine v_fresh ha5 (fun w h5 hF9 hE9 => ?_)
  have h1 := hF9 _ _ _ (fun h9 => h9) h1
  have hF := hF.tr (hF9.mono (fun t h9 => h9.elim))
  refine v_dup C rfl dX4_init_8 ?_
  refine v_callI C (ret2 := none) (b := _) (t := 0) (ci := 0) (fs := []) (q := (RX7, TX7, 33)) (As := []) (rest := [_, _]) (c_X0_init h5 (by omega)) (cwI 0 hts gX4_init_X0_init rfl rfl rfl (hts _ (List.mem_of_getElem? (i := 6) rfl)) (hts _ (List.mem_of_getElem? (i := 14) rfl)) (hts _ (List.mem_of_getElem? (i := 15) rfl)) rfl (by decide +kernel) ⟨Nat.le_of_ble_eq_true rfl, Nat.le_of_ble_eq_true rfl⟩) rfl rfl (Nat.le_of_ble_eq_true rfl) dX4_init_9 (by dsimp only; omega) (by dsimp only; omega) (fun w hp => ?_)
  obtain ⟨hBy, hF9⟩ := hp
  have h1 := hF9 _ _ _ (fun h9 => by have h8 : T = T + 1 ∨ T = T + 1 + 1 := h9; omega) h1
  have hF := hF.tr (hF9.mono (fun t h9 => by have h8 : t = T + 1 ∨ t = T + 1 + 1 := h9; show t = T ∨ t = T + 1 ∨ t = T + 2 ∨ t = T + 3 ∨ t = T + 4 ∨ t = T + 5 ∨ t = 0; omega))
  refine v_putX C p12 h1 rfl rfl (Nat.le_of_ble_eq_true rfl) dX4_init_12 ?_
  refine v_upd h1 (fun w h1 hF9 hE9 => ?_)
  have hBy := hBy.fr hF9 (fun h9 => by have h8 : T + 1 = T := h9; omega) (fun h9 => by have h8 : T + 1 + 1 = T := h9; omega)
  have hF := hF.tr (hF9.mono (fun t h9 => by have h8 : t = T := h9; show t = T ∨ t = T + 1 ∨ t = T + 2 ∨ t = T + 3 ∨ t = T + 4 ∨ t = T + 5 ∨ t = 0; omega))
  refine v_aload_n C dX4_init_15 rfl ?_
  refine v_new C (ci := 2) (T := TJx4a65c) (N := 3) (Cn := RJx4a65c) (fs := [.int (iI 0), .null, .int (iI 0)]) (T + 3) tyJx4a65c tyJx4a65c_ok rfl (fun _ h => List.mem_cons_of_mem _ (List.mem_append_right _ (h))) (List.mem_of_getElem? (i := 8) rfl) (List.mem_of_getElem? (i := 9) rfl) (List.mem_of_getElem? (i := 10) rfl) (fun j hj => by rcases (by omega : j = 0 ∨ j = 1 ∨ j = 2) with rfl | rfl | rfl <;> rfl) (by dsimp only; omega) (by dsimp only; omega) dX4_init_16 (fun a16 ha16 => ?_)
  refine v_fresh ha16 (fun w h16 hF9 hE9 => ?_)
  have h1 := hF9 _ _ _ (fun h9 => h9) h1
  have hBy := hBy.fr hF9 (fun h9 => h9) (fun h9 => h9)
  have hF := hF.tr (hF9.mono (fun t h9 => h9.elim))
  refine v_dup C rfl dX4_init_19 ?_
  refine v_callI C (ret2 := none) (b := _) (t := 0) (ci := 0) (fs := []) (q := (RX7, TX7, 33)) (As := []) (rest := [_, _]) (c_Jx4a65c_init_da8c8 h16) (cwI 0 hts gX4_init_Jx4a65c_init_da8c8 rfl rfl rfl (hts _ (List.mem_of_getElem? (i := 10) rfl)) (hts _ (List.mem_of_getElem? (i := 20) rfl)) (hts _ (List.mem_of_getElem? (i := 21) rfl)) rfl (by decide +kernel) ⟨Nat.le_of_ble_eq_true rfl, Nat.le_of_ble_eq_true rfl⟩) rfl rfl (Nat.le_of_ble_eq_true rfl) dX4_init_20 (by dsimp only; omega) (by dsimp only; omega) (fun w hp => ?_)
  obtain ⟨hLs, hF9⟩ := hp
  have h1 := hF9 _ _ _ (fun h9 => by have h8 : T = T + 3 := h9; omega) h1
  have hBy := hBy.fr hF9 (fun h9 => by have h8 : T + 1 = T + 3 := h9; omega) (fun h9 => by have h8 : T + 1 + 1 = T + 3 := h9; omega)
  have hF := hF.tr (hF9.mono (fun t h9 => by have h8 : t = T + 3 := h9; show t = T ∨ t = T + 1 ∨ t = T + 2 ∨ t = T + 3 ∨ t = T + 4 ∨ t = T + 5 ∨ t = 0; omega))
  refine v_putX C p21 h1 rfl rfl (Nat.le_of_ble_eq_true rfl) dX4_init_23 ?_
  refine v_upd h1 (fun w h1 hF9 hE9 => ?_)
  have hBy := hBy.fr hF9 (fun h9 => by have h8 : T + 1 = T := h9; omega) (fun h9 => by have h8 : T + 1 + 1 = T := h9; omega)
  have hLs := hLs.fr hF9 (fun h9 => by have h8 : T + 3 = T := h9; omega) (fun h9 => by have h8 : T + 3 + 1 = T := h9; omega)
  have hF := hF.tr (hF9.mono (fun t h9 => by have h8 : t = T := h9; show t = T ∨ t = T + 1 ∨ t = T + 2 ∨ t = T + 3 ∨ t = T + 4 ∨ t = T + 5 ∨ t = 0; omega))
  refine v_aload_n C dX4_init_26 rfl ?_
  refine v_bipush C dX4_init_27 rfl ?_
  refine v_newB C (T + 5) (List.mem_of_getElem? (i := 12) rfl) (by omega) (by omega) (by dsimp only; omega) (by dsimp only; omega) dX4_init_29 (fun a29 ha29 => ?_)
  refine v_fresh ha29 (fun w h29 hF9 hE9 => ?_)
  have h1 := hF9 _ _ _ (fun h9 => h9) h1
  have hBy := hBy.fr hF9 (fun h9 => h9) (fun h9 => h9)
  have hLs := hLs.fr hF9 (fun h9 => h9) (fun h9 => h9)
  have hF := hF.tr (hF9.mono (fun t h9 => h9.elim))
  refine v_putf C p25 h1 rfl rfl (Nat.le_of_ble_eq_true rfl) dX4_init_31 ?_
  refine v_upd h1 (fun w h1 hF9 hE9 => ?_)
  have hBy := hBy.fr hF9 (fun h9 => by have h8 : T + 1 = T := h9; omega) (fun h9 => by have h8 : T + 1 + 1 = T := h9; omega)
  have hLs := hLs.fr hF9 (fun h9 => by have h8 : T + 3 = T := h9; omega) (fun h9 => by have h8 : T + 3 + 1 = T := h9; omega)
  have h29 := hF9 _ _ _ (fun h9 => by have h8 : T + 5 = T := h9; omega) h29
  have hF := hF.tr (hF9.mono (fun t h9 => by have h8 : t = T := h9; show t = T ∨ t = T + 1 ∨ t = T + 2 ∨ t = T + 3 ∨ t = T + 4 ∨ t = T + 5 ∨ t = 0; omega))
  exact v_vret C rfl dX4_init_34 (by omega) (by omega) (hPO _ ⟨a5, a16, a29, ⟨h1, hBy, hLs, h29, ⟨by omega, by omega⟩, fun j a q => ⟨Int.le_refl 0, by show (0 : Int) ≤ 8; omega⟩⟩, hF⟩)
set_option maxRecDepth 100000 in
set_option maxHeartbeats 400000 in
theorem c_J7_fill_031fb {G : GG} {l : Launch} {w : Wd} {a t9 : Nat} {n : Int} {f : Int → Int} (ha : w a = some (t9, .inl (gB G, aI n f))) (hn : 0 ≤ n ∧ n ≤ 1000000) : MG G l yJ7_fill_031fb wsJ7_fill_031fb 1 40 (0) (0) [.ref a, .int (iI 0)] w (pV (fun (w' : Wd) => ∃ f2, w' a = some (t9, .inl (gB G, aI n f2)) ∧ (∀ j, 0 ≤ j → j < n → f2 j = 0) ∧ Fr (fun t => t = t9) w w')) := by
  refine MG.of (cc := cJ7_fill_031fb) (nL := 4) (ret := none) (ll := [some (.ref a), some (.int (iI 0)), none, none]) (by decide) rfl (Nat.le_of_ble_eq_true rfl) rfl ?_
  intro p e s m args below meth c C
  have hts := C.2.2.2.2.1
  refine poV (P := fun PO => V G p l e _ s m args below meth c (MQW G below args s _ _ (pV PO)) w 0 0 0 _ []) (fun PO hPO => ?_)
  obtain ⟨w0, hw0⟩ : ∃ z, z = w := ⟨_, rfl⟩
  rw [← hw0] at hPO
  have hF : Fr (fun t => t = t9) w0 w := by rw [hw0]; exact Fr.rf
  refine v_iconst C dJ7_fill_031fb_0 ?_
  refine v_istore_n C dJ7_fill_031fb_1 bsl_4_2 (by decide) rfl ?_
  refine v_aload_n C dJ7_fill_031fb_2 rfl ?_
  refine v_alen C ha (n := n) (i := 0) rfl (Int.toNat_of_nonneg (a := n) (by omega)) dJ7_fill_031fb_3 ?_
  refine v_istore_n C dJ7_fill_031fb_4 bsl_4_3 (by decide) rfl ?_
  have L5 : ∀ (N : Nat) (w : Wd) (j9 : Int) (f : Int → Int), (w a = some (t9, .inl (gB G, aI n f))) → (Fr (fun t => t = t9) w0 w) → (0 ≤ j9 ∧ j9 ≤ n) → (∀ j, 0 ≤ j → j < j9 → f j = 0) → (n - j9).toNat < N → V G p l e { frames := 1, cells := 0, slots := 0, locals := 40 } s m args below meth c (MQW G below args s (0) (0) (pV PO)) w (0) (0) 5 [some (.ref a), some (.int (iI 0)), some (.int (iI j9)), some (.int (iI n))] [] := by
    intro N
    induction N with
    | zero => intro w j9 f ha hF hj hz hm; exact absurd hm (Nat.not_lt_zero _)
    | succ N ih =>
      intro w j9 f ha hF hj hz hm
      refine v_iload_n C dJ7_fill_031fb_5 rfl ?_
      refine v_iload_n C dJ7_fill_031fb_6 rfl ?_
      refine v_icmp_ge C (⟨by omega, by omega⟩) (⟨by omega, by omega⟩) (tgt := 20) dJ7_fill_031fb_7 (by decide) (fun c_7 => ?_) (fun c_7 => ?_)
      · exact v_vret C rfl dJ7_fill_031fb_20 (by omega) (by omega) (hPO _ ⟨f, ha, fun j a q => hz j a (by omega), hF⟩)
      · refine v_aload_n C dJ7_fill_031fb_10 rfl ?_
        refine v_iload_n C dJ7_fill_031fb_11 rfl ?_
        refine v_iload_n C dJ7_fill_031fb_12 rfl ?_
        refine v_bast C ha (⟨by omega, by omega⟩) (by omega) (by omega) (show (iI 0).toInt8.toInt32 = iI (0 : Int) from by decide) dJ7_fill_031fb_13 ?_
        refine v_upd ha (fun w ha hF9 hE9 => ?_)
        have hF := hF.tr (hF9.mono (fun t h9 => by have h8 : t = t9 := h9; show t = t9; omega))
        refine v_iinc C dJ7_fill_031fb_14 rfl bsl_4_2 (by decide) rfl ?_
        refine v_goto C (tgt := 5) dJ7_fill_031fb_17 (by decide) ?_
        exact ih w (j9 + 1) _ ha hF ⟨by omega, by omega⟩ (fun j a q => by
          by_cases g : j = j9
          · rw [g, upI_eq]
          · rw [upI_ne g]; exact hz j a (by omega)) (by omega)
  exact L5 _ w 0 f ha hF ⟨by omega, by omega⟩ (fun j a q => by omega) (Nat.lt_succ_self _)
set_option maxRecDepth 100000 in
set_option maxHeartbeats 400000 in
theorem c_X4_clear {G : GG} {l : Launch} {w : Wd} {r : Nat} {T bt ml vk : Nat} {len cap n vcap : Int} {b vf : Int → Int} {M : Int → Nat} (hB : RowR G w T r bt ml vk len cap b n M vcap vf) (hT : 0 < T) : MG G l yX4_clear wsX4_clear 2 80 (0) (0) [.ref r] w (pV (fun (w' : Wd) => ∃ f2, RowR G w' T r bt ml vk 0 cap b 0 M vcap f2 ∧ (∀ j, 0 ≤ j → j < vcap → f2 j = 0) ∧ Fr (fun t => t = T ∨ t = T + 1 ∨ t = T + 2 ∨ t = T + 3 ∨ t = T + 4 ∨ t = T + 5 ∨ t = 0) w w')) := by
  refine MG.of (cc := cX4_clear) (nL := 1) (ret := none) (ll := [some (.ref r)]) (by decide) rfl (Nat.le_of_ble_eq_true rfl) rfl ?_
  intro p e s m args below meth c C
  have hts := C.2.2.2.2.1
  have g12 : GetF G s m args 12 7 0 := getF_of C 7 0 (T := TX4) (N := 3) (Cn := RX4) (ref := "TraceBook$Row") rfl (by decide) (fun _ h => List.mem_cons_of_mem _ (List.mem_append_left _ (List.mem_append_left _ (List.mem_append_right _ (h))))) (List.mem_of_getElem? (i := 1) rfl) (fun _ h => h)
  have g21 : GetF G s m args 21 7 1 := getF_of C 7 1 (T := TX4) (N := 3) (Cn := RX4) (ref := "TraceBook$Row") rfl (by decide) (fun _ h => List.mem_cons_of_mem _ (List.mem_append_left _ (List.mem_append_left _ (List.mem_append_right _ (h))))) (List.mem_of_getElem? (i := 2) rfl) (fun _ h => h)
  have g25 : GetF G s m args 25 7 2 := getF_of C 7 2 (T := TX4) (N := 3) (Cn := RX4) (ref := "TraceBook$Row") rfl (by decide) (fun _ h => List.mem_cons_of_mem _ (List.mem_append_left _ (List.mem_append_left _ (List.mem_append_right _ (h))))) (List.mem_of_getElem? (i := 3) rfl) (fun _ h => h)
  refine poV (P := fun PO => V G p l e _ s m args below meth c (MQW G below args s _ _ (pV PO)) w 0 0 0 _ []) (fun PO hPO => ?_)
  obtain ⟨w0, hw0⟩ : ∃ z, z = w := ⟨_, rfl⟩
  rw [← hw0] at hPO
  have hF : Fr (fun t => t = T ∨ t = T + 1 ∨ t = T + 2 ∨ t = T + 3 ∨ t = T + 4 ∨ t = T + 5 ∨ t = 0) w0 w := by rw [hw0]; exact Fr.rf
  obtain ⟨h1, hBy, hLs, hVa, hvc, hvf⟩ := hB
  have hn0 := hLs.rg
  have hb0 := hBy.rg
  refine v_aload_n C dX4_clear_0 rfl ?_
  refine v_getf C g12 h1 rfl dX4_clear_1 ?_
  refine v_iconst C dX4_clear_4 ?_
  refine v_callVv C (q := (RX0, TX0, 2)) (As := [_]) (rest := []) (c_X0_cut hBy (n := 0) ⟨by omega, by omega⟩) (cwV 1 hts gX4_clear_X0_cut rfl rfl rfl (by decide +kernel) ⟨Nat.le_of_ble_eq_true rfl, Nat.le_of_ble_eq_true rfl⟩) (hBy.obj.choose_spec) rfl rfl rfl (Nat.le_of_ble_eq_true rfl) dX4_clear_5 (by dsimp only; omega) (by dsimp only; omega) (fun w hp => ?_)
  obtain ⟨hBy, hF9⟩ := hp
  have h1 := hF9 _ _ _ (fun h9 => by have h8 : T = T + 1 ∨ T = T + 1 + 1 ∨ T = 0 := h9; omega) h1
  have hLs := hLs.fr hF9 (fun h9 => by have h8 : T + 3 = T + 1 ∨ T + 3 = T + 1 + 1 ∨ T + 3 = 0 := h9; omega) (fun h9 => by have h8 : T + 3 + 1 = T + 1 ∨ T + 3 + 1 = T + 1 + 1 ∨ T + 3 + 1 = 0 := h9; omega)
  have hVa := hF9 _ _ _ (fun h9 => by have h8 : T + 5 = T + 1 ∨ T + 5 = T + 1 + 1 ∨ T + 5 = 0 := h9; omega) hVa
  have hF := hF.tr (hF9.mono (fun t h9 => by have h8 : t = T + 1 ∨ t = T + 1 + 1 ∨ t = 0 := h9; show t = T ∨ t = T + 1 ∨ t = T + 2 ∨ t = T + 3 ∨ t = T + 4 ∨ t = T + 5 ∨ t = 0; omega))
  refine v_wide (k' := 0) (z' := 0) (Nat.le_refl _) (Nat.le_refl _) ?_
  refine v_aload_n C dX4_clear_8 rfl ?_
  refine v_getf C g21 h1 rfl dX4_clear_9 ?_
  refine v_callVv C (q := (RJx4a65c, TJx4a65c, 3)) (As := []) (rest := []) (c_Jx4a65c_clear_da8c8 hLs) (cwV 0 hts gX4_clear_Jx4a65c_clear_da8c8 rfl rfl rfl (by decide +kernel) ⟨Nat.le_of_ble_eq_true rfl, Nat.le_of_ble_eq_true rfl⟩) (hLs.obj.choose_spec) rfl rfl rfl (Nat.le_of_ble_eq_true rfl) dX4_clear_12 (by dsimp only; omega) (by dsimp only; omega) (fun w hp => ?_)
  obtain ⟨hLs, hF9⟩ := hp
  have h1 := hF9 _ _ _ (fun h9 => by have h8 : T = T + 3 ∨ T = T + 3 + 1 ∨ T = 0 := h9; omega) h1
  have hBy := hBy.fr hF9 (fun h9 => by have h8 : T + 1 = T + 3 ∨ T + 1 = T + 3 + 1 ∨ T + 1 = 0 := h9; omega) (fun h9 => by have h8 : T + 1 + 1 = T + 3 ∨ T + 1 + 1 = T + 3 + 1 ∨ T + 1 + 1 = 0 := h9; omega)
  have hVa := hF9 _ _ _ (fun h9 => by have h8 : T + 5 = T + 3 ∨ T + 5 = T + 3 + 1 ∨ T + 5 = 0 := h9; omega) hVa
  have hF := hF.tr (hF9.mono (fun t h9 => by have h8 : t = T + 3 ∨ t = T + 3 + 1 ∨ t = 0 := h9; show t = T ∨ t = T + 1 ∨ t = T + 2 ∨ t = T + 3 ∨ t = T + 4 ∨ t = T + 5 ∨ t = 0; omega))
  refine v_wide (k' := 0) (z' := 0) (Nat.le_refl _) (Nat.le_refl _) ?_
  refine v_aload_n C dX4_clear_15 rfl ?_
  refine v_getf C g25 h1 rfl dX4_clear_16 ?_
  refine v_iconst C dX4_clear_19 ?_
  refine v_callSv C (b := 0) (t := 0) (ci := 0) (fs := []) (q := (RX7, TX7, 33)) (As := [_, _]) (rest := []) (c_J7_fill_031fb hVa ⟨by omega, by omega⟩) (va_cwS 2 hts gX4_clear_J7_fill_031fb rfl rfl rfl (by decide +kernel) ⟨Nat.le_of_ble_eq_true rfl, Nat.le_of_ble_eq_true rfl⟩) rfl rfl (Nat.le_of_ble_eq_true rfl) dX4_clear_20 (by dsimp only; omega) (by dsimp only; omega) (fun w hp => ?_)
  obtain ⟨f2, hVa, hf2, hF9⟩ := hp
  have h1 := hF9 _ _ _ (fun h9 => by have h8 : T = T + 5 := h9; omega) h1
  have hBy := hBy.fr hF9 (fun h9 => by have h8 : T + 1 = T + 5 := h9; omega) (fun h9 => by have h8 : T + 1 + 1 = T + 5 := h9; omega)
  have hLs := hLs.fr hF9 (fun h9 => by have h8 : T + 3 = T + 5 := h9; omega) (fun h9 => by have h8 : T + 3 + 1 = T + 5 := h9; omega)
  have hF := hF.tr (hF9.mono (fun t h9 => by have h8 : t = T + 5 := h9; show t = T ∨ t = T + 1 ∨ t = T + 2 ∨ t = T + 3 ∨ t = T + 4 ∨ t = T + 5 ∨ t = 0; omega))
  refine v_wide (k' := 0) (z' := 0) (Nat.le_refl _) (Nat.le_refl _) ?_
  exact v_vret C rfl dX4_clear_23 (by omega) (by omega) (hPO _ ⟨f2, ⟨h1, hBy, hLs, hVa, hvc, fun j a q => by rw [hf2 j a q]; exact ⟨by omega, by omega⟩⟩, hf2, hF⟩)
set_option maxRecDepth 100000 in
set_option maxHeartbeats 400000 in
theorem c_X4_lastMoment {G : GG} {l : Launch} {w : Wd} {r : Nat} {T bt ml vk : Nat} {len cap n vcap : Int} {b vf : Int → Int} {M : Int → Nat} (hB : RowR G w T r bt ml vk len cap b n M vcap vf) (hM : 0 < n → ∃ t vs, w (M (n - 1)) = some (t, .inr (5, vs))) : MG G l yX4_lastMoment wsX4_lastMoment 4 160 (0) (0) [.ref r] w (pR (fun (x : Option Nat) (w' : Wd) => x = (if n = 0 then none else some (M (n - 1))) ∧ w' = w)) := by
  refine MG.of (cc := cX4_lastMoment) (nL := 1) (ret := (some (.object "TraceBook$Moment"))) (ll := [some (.ref r)]) (by decide) rfl (Nat.le_of_ble_eq_true rfl) rfl ?_
  intro p e s m args below meth c C
  have hts := C.2.2.2.2.1
  have g21 : GetF G s m args 21 7 1 := getF_of C 7 1 (T := TX4) (N := 3) (Cn := RX4) (ref := "TraceBook$Row") rfl (by decide) (fun _ h => List.mem_cons_of_mem _ (List.mem_append_left _ (List.mem_append_right _ (h)))) (List.mem_of_getElem? (i := 1) rfl) (fun _ h => h)
  refine poR (P := fun PO => V G p l e _ s m args below meth c (MQW G below args s _ _ (pR PO)) w 0 0 0 _ []) (fun PO hPO => ?_)
  obtain ⟨h1, hBy, hLs, hVa, hvc, hvf⟩ := hB
  have hn0 := hLs.rg
  have hb0 := hBy.rg
  refine v_aload_n C dX4_lastMoment_0 rfl ?_
  refine v_getf C g21 h1 rfl dX4_lastMoment_1 ?_
  refine v_callVi C (q := (RJx4a65c, TJx4a65c, 3)) (As := []) (rest := []) (c_Jx4a65c_isEmpty_aae02 hLs) (cwV 0 hts gX4_lastMoment_Jx4a65c_isEmpty_aae02 rfl rfl rfl (by decide +kernel) ⟨Nat.le_of_ble_eq_true rfl, Nat.le_of_ble_eq_true rfl⟩) (hLs.obj.choose_spec) rfl rfl rfl (Nat.le_of_ble_eq_true rfl) dX4_lastMoment_4 (by dsimp only; omega) (by dsimp only; omega) (fun x_4 w hp => ?_)
  obtain ⟨hx_4, rfl⟩ := hp
  refine v_wide (k' := 0) (z' := 0) (Nat.le_refl _) (Nat.le_refl _) ?_
  refine v_if_eq C (hx_4.r32) (tgt := 14) dX4_lastMoment_7 (by decide) (fun c_7 => ?_) (fun c_7 => ?_)
  · have hz := hx_4.z c_7
    obtain ⟨tm9, vm9, hm9⟩ := hM (by omega)
    refine v_aload_n C dX4_lastMoment_14 rfl ?_
    refine v_getf C g21 h1 rfl dX4_lastMoment_15 ?_
    refine v_aload_n C dX4_lastMoment_18 rfl ?_
    refine v_getf C g21 h1 rfl dX4_lastMoment_19 ?_
    refine v_callVi C (q := (RJx4a65c, TJx4a65c, 3)) (As := []) (rest := [_]) (c_Jx4a65c_size_8abf5 hLs) (cwV 0 hts gX4_lastMoment_Jx4a65c_size_8abf5 rfl rfl rfl (by decide +kernel) ⟨Nat.le_of_ble_eq_true rfl, Nat.le_of_ble_eq_true rfl⟩) (hLs.obj.choose_spec) rfl rfl rfl (Nat.le_of_ble_eq_true rfl) dX4_lastMoment_22 (by dsimp only; omega) (by dsimp only; omega) (fun x_22 w hp => ?_)
    obtain ⟨hx9, rfl⟩ := hp
    rw [hx9]
    refine v_wide (k' := 0) (z' := 0) (Nat.le_refl _) (Nat.le_refl _) ?_
    refine v_iconst C dX4_lastMoment_25 ?_
    refine v_isub C dX4_lastMoment_26 ?_
    refine v_callVr C (q := (RJx4a65c, TJx4a65c, 3)) (As := [_]) (rest := []) (c_Jx4a65c_get_915e3 hLs (i := n - 1) ⟨by omega, by omega⟩) (cwV 1 hts gX4_lastMoment_Jx4a65c_get_915e3 rfl rfl rfl (by decide +kernel) ⟨Nat.le_of_ble_eq_true rfl, Nat.le_of_ble_eq_true rfl⟩) (hLs.obj.choose_spec) rfl rfl rfl (Nat.le_of_ble_eq_true rfl) dX4_lastMoment_27 (by dsimp only; omega) (by dsimp only; omega) (fun x_27 w hp => ?_)
    obtain ⟨rfl, rfl⟩ := hp
    refine v_wide (k' := 0) (z' := 0) (Nat.le_refl _) (Nat.le_refl _) ?_
    refine v_castY C (hm9) rfl (List.mem_of_getElem? (i := 2) rfl) rfl dX4_lastMoment_30 ?_
    exact v_aret C rfl (Or.inl ⟨_, rfl⟩) dX4_lastMoment_33 (by omega) (by omega) (hPO _ _ ⟨by rw [if_neg hz], rfl⟩)
  · have hz := hx_4.nz c_7
    refine v_null C dX4_lastMoment_10 ?_
    refine v_goto C (tgt := 33) dX4_lastMoment_11 (by decide) ?_
    exact v_aretN C rfl (Or.inl ⟨_, rfl⟩) dX4_lastMoment_33 (by omega) (by omega) (hPO _ _ ⟨by rw [if_pos hz], rfl⟩)
set_option maxRecDepth 100000 in
set_option maxHeartbeats 400000 in
theorem c_X4_lastTime_0 {G : GG} {l : Launch} {w : Wd} {r : Nat} {T bt ml vk : Nat} {len cap n vcap : Int} {b vf : Int → Int} {M : Int → Nat} {lt ls : Int} (hB : RowR G w T r bt ml vk len cap b n M vcap vf) (hM : 0 < n → ∃ q1 q2, w (M (n - 1)) = some (100 + 4 * M (n - 1), .inr (5, [.long (lI lt), .long (lI ls), q1, q2]))) (hn : n = 0) : MG G l yX4_lastTime wsX4_lastTime 5 200 (0) (0) [.ref r] w (pL (fun (x : Int) (w' : Wd) => x = 0 ∧ w' = w)) := by
  refine MG.of (cc := cX4_lastTime) (nL := 2) (ret := (some .long)) (ll := [some (.ref r), none]) (by decide) rfl (Nat.le_of_ble_eq_true rfl) rfl ?_
  intro p e s m args below meth c C
  have hts := C.2.2.2.2.1
  refine poI (P := fun PO => V G p l e _ s m args below meth c (MQW G below args s _ _ (pL PO)) w 0 0 0 _ []) (fun PO hPO => ?_)
  obtain ⟨h1, hBy, hLs, hVa, hvc, hvf⟩ := id hB
  refine v_aload_n C dX4_lastTime_0 rfl ?_
  refine v_callVr C (q := (RX4, TX4, 3)) (As := []) (rest := []) (c_X4_lastMoment hB (fun h => by obtain ⟨q1, q2, hq⟩ := hM h; exact ⟨_, _, hq⟩)) (cwV 0 hts gX4_lastTime_X4_lastMoment rfl rfl rfl (by decide +kernel) ⟨Nat.le_of_ble_eq_true rfl, Nat.le_of_ble_eq_true rfl⟩) (h1) rfl rfl rfl (Nat.le_of_ble_eq_true rfl) dX4_lastTime_1 (by dsimp only; omega) (by dsimp only; omega) (fun x_1 w hp => ?_)
  obtain ⟨hx, rfl⟩ := hp
  rw [if_pos hn] at hx
  subst hx
  refine v_wide (k' := 0) (z' := 0) (Nat.le_refl _) (Nat.le_refl _) ?_
  refine v_astore_nN C dX4_lastTime_4 bsl_2_1 (by decide) rfl ?_
  refine v_aload_nN C dX4_lastTime_5 rfl ?_
  refine v_ifnonnullN C dX4_lastTime_6 ?_
  refine v_lconst C (v := 0) dX4_lastTime_9 rfl ?_
  refine v_goto C (tgt := 17) dX4_lastTime_10 (by decide) ?_
  exact v_lret C rfl dX4_lastTime_17 (by omega) (by omega) (hPO _ _ ⟨rfl, rfl⟩)
set_option maxRecDepth 100000 in
set_option maxHeartbeats 400000 in
theorem c_X4_lastTime_N {G : GG} {l : Launch} {w : Wd} {r : Nat} {T bt ml vk : Nat} {len cap n vcap : Int} {b vf : Int → Int} {M : Int → Nat} {lt ls : Int} (hB : RowR G w T r bt ml vk len cap b n M vcap vf) (hM : 0 < n → ∃ q1 q2, w (M (n - 1)) = some (100 + 4 * M (n - 1), .inr (5, [.long (lI lt), .long (lI ls), q1, q2]))) (hn : 0 < n) : MG G l yX4_lastTime wsX4_lastTime 5 200 (0) (0) [.ref r] w (pL (fun (x : Int) (w' : Wd) => x = lt ∧ w' = w)) := by
  refine MG.of (cc := cX4_lastTime) (nL := 2) (ret := (some .long)) (ll := [some (.ref r), none]) (by decide) rfl (Nat.le_of_ble_eq_true rfl) rfl ?_
  intro p e s m args below meth c C
  have hts := C.2.2.2.2.1
  have g60 : GetN G s m args 60 5 0 := getN_of C 5 0 (T := TX2) (N := 4) (Cn := RX2) (ref := "TraceBook$Moment") rfl (by decide) (fun _ h => List.mem_cons_of_mem _ (List.mem_append_left _ (List.mem_append_left _ (List.mem_append_right _ (h))))) (List.mem_of_getElem? (i := 19) rfl) (fun _ h => h)
  refine poI (P := fun PO => V G p l e _ s m args below meth c (MQW G below args s _ _ (pL PO)) w 0 0 0 _ []) (fun PO hPO => ?_)
  obtain ⟨h1, hBy, hLs, hVa, hvc, hvf⟩ := id hB
  obtain ⟨q1, q2, hm9⟩ := hM hn
  refine v_aload_n C dX4_lastTime_0 rfl ?_
  refine v_callVr C (q := (RX4, TX4, 3)) (As := []) (rest := []) (c_X4_lastMoment hB (fun h => by obtain ⟨q1, q2, hq⟩ := hM h; exact ⟨_, _, hq⟩)) (cwV 0 hts gX4_lastTime_X4_lastMoment rfl rfl rfl (by decide +kernel) ⟨Nat.le_of_ble_eq_true rfl, Nat.le_of_ble_eq_true rfl⟩) (h1) rfl rfl rfl (Nat.le_of_ble_eq_true rfl) dX4_lastTime_1 (by dsimp only; omega) (by dsimp only; omega) (fun x_1 w hp => ?_)
  obtain ⟨hx, rfl⟩ := hp
  rw [if_neg (by omega)] at hx
  subst hx
  refine v_wide (k' := 0) (z' := 0) (Nat.le_refl _) (Nat.le_refl _) ?_
  refine v_astore_n C dX4_lastTime_4 bsl_2_1 (by decide) rfl ?_
  refine v_aload_n C dX4_lastTime_5 rfl ?_
  refine v_ifnonnull C (tgt := 13) dX4_lastTime_6 (by decide) ?_
  refine v_aload_n C dX4_lastTime_13 rfl ?_
  refine v_getN C g60 hm9 rfl dX4_lastTime_14 ?_
  exact v_lret C rfl dX4_lastTime_17 (by omega) (by omega) (hPO _ _ ⟨rfl, rfl⟩)
theorem c_X4_lastTime {G : GG} {l : Launch} {w : Wd} {r : Nat} {T bt ml vk : Nat} {len cap n vcap : Int} {b vf : Int → Int} {M : Int → Nat} {lt ls : Int} (hB : RowR G w T r bt ml vk len cap b n M vcap vf) (hM : 0 < n → ∃ q1 q2, w (M (n - 1)) = some (100 + 4 * M (n - 1), .inr (5, [.long (lI lt), .long (lI ls), q1, q2]))) : MG G l yX4_lastTime wsX4_lastTime 5 200 0 0 [.ref r] w (pL (fun (x : Int) (w' : Wd) => x = (if n = 0 then 0 else lt) ∧ w' = w)) := by
  have hn0 := hB.2.2.1.rg
  by_cases q : n = 0
  · rw [if_pos q]; exact c_X4_lastTime_0 hB hM q
  · rw [if_neg q]; exact c_X4_lastTime_N hB hM (by omega)
set_option maxRecDepth 100000 in
set_option maxHeartbeats 400000 in
theorem c_X4_lastStep_0 {G : GG} {l : Launch} {w : Wd} {r : Nat} {T bt ml vk : Nat} {len cap n vcap : Int} {b vf : Int → Int} {M : Int → Nat} {lt ls : Int} (hB : RowR G w T r bt ml vk len cap b n M vcap vf) (hM : 0 < n → ∃ q1 q2, w (M (n - 1)) = some (100 + 4 * M (n - 1), .inr (5, [.long (lI lt), .long (lI ls), q1, q2]))) (hn : n = 0) : MG G l yX4_lastStep wsX4_lastStep 5 200 (0) (0) [.ref r] w (pL (fun (x : Int) (w' : Wd) => x = -1 ∧ w' = w)) := by
  refine MG.of (cc := cX4_lastStep) (nL := 2) (ret := (some .long)) (ll := [some (.ref r), none]) (by decide) rfl (Nat.le_of_ble_eq_true rfl) rfl ?_
  intro p e s m args below meth c C
  have hts := C.2.2.2.2.1
  refine poI (P := fun PO => V G p l e _ s m args below meth c (MQW G below args s _ _ (pL PO)) w 0 0 0 _ []) (fun PO hPO => ?_)
  obtain ⟨h1, hBy, hLs, hVa, hvc, hvf⟩ := id hB
  refine v_aload_n C dX4_lastStep_0 rfl ?_
  refine v_callVr C (q := (RX4, TX4, 3)) (As := []) (rest := []) (c_X4_lastMoment hB (fun h => by obtain ⟨q1, q2, hq⟩ := hM h; exact ⟨_, _, hq⟩)) (cwV 0 hts gX4_lastStep_X4_lastMoment rfl rfl rfl (by decide +kernel) ⟨Nat.le_of_ble_eq_true rfl, Nat.le_of_ble_eq_true rfl⟩) (h1) rfl rfl rfl (Nat.le_of_ble_eq_true rfl) dX4_lastStep_1 (by dsimp only; omega) (by dsimp only; omega) (fun x_1 w hp => ?_)
  obtain ⟨hx, rfl⟩ := hp
  rw [if_pos hn] at hx
  subst hx
  refine v_wide (k' := 0) (z' := 0) (Nat.le_refl _) (Nat.le_refl _) ?_
  refine v_astore_nN C dX4_lastStep_4 bsl_2_1 (by decide) rfl ?_
  refine v_aload_nN C dX4_lastStep_5 rfl ?_
  refine v_ifnonnullN C dX4_lastStep_6 ?_
  refine v_ldc2 C (v := -1) (List.mem_of_getElem? (i := 1) rfl) (by decide +kernel) dX4_lastStep_9 ?_
  refine v_goto C (tgt := 19) dX4_lastStep_12 (by decide) ?_
  exact v_lret C rfl dX4_lastStep_19 (by omega) (by omega) (hPO _ _ ⟨rfl, rfl⟩)
set_option maxRecDepth 100000 in
set_option maxHeartbeats 400000 in
theorem c_X4_lastStep_N {G : GG} {l : Launch} {w : Wd} {r : Nat} {T bt ml vk : Nat} {len cap n vcap : Int} {b vf : Int → Int} {M : Int → Nat} {lt ls : Int} (hB : RowR G w T r bt ml vk len cap b n M vcap vf) (hM : 0 < n → ∃ q1 q2, w (M (n - 1)) = some (100 + 4 * M (n - 1), .inr (5, [.long (lI lt), .long (lI ls), q1, q2]))) (hn : 0 < n) : MG G l yX4_lastStep wsX4_lastStep 5 200 (0) (0) [.ref r] w (pL (fun (x : Int) (w' : Wd) => x = ls ∧ w' = w)) := by
  refine MG.of (cc := cX4_lastStep) (nL := 2) (ret := (some .long)) (ll := [some (.ref r), none]) (by decide) rfl (Nat.le_of_ble_eq_true rfl) rfl ?_
  intro p e s m args below meth c C
  have hts := C.2.2.2.2.1
  have g66 : GetN G s m args 66 5 1 := getN_of C 5 1 (T := TX2) (N := 4) (Cn := RX2) (ref := "TraceBook$Moment") rfl (by decide) (fun _ h => List.mem_cons_of_mem _ (List.mem_append_left _ (List.mem_append_left _ (List.mem_append_right _ (h))))) (List.mem_of_getElem? (i := 20) rfl) (fun _ h => h)
  refine poI (P := fun PO => V G p l e _ s m args below meth c (MQW G below args s _ _ (pL PO)) w 0 0 0 _ []) (fun PO hPO => ?_)
  obtain ⟨h1, hBy, hLs, hVa, hvc, hvf⟩ := id hB
  obtain ⟨q1, q2, hm9⟩ := hM hn
  refine v_aload_n C dX4_lastStep_0 rfl ?_
  refine v_callVr C (q := (RX4, TX4, 3)) (As := []) (rest := []) (c_X4_lastMoment hB (fun h => by obtain ⟨q1, q2, hq⟩ := hM h; exact ⟨_, _, hq⟩)) (cwV 0 hts gX4_lastStep_X4_lastMoment rfl rfl rfl (by decide +kernel) ⟨Nat.le_of_ble_eq_true rfl, Nat.le_of_ble_eq_true rfl⟩) (h1) rfl rfl rfl (Nat.le_of_ble_eq_true rfl) dX4_lastStep_1 (by dsimp only; omega) (by dsimp only; omega) (fun x_1 w hp => ?_)
  obtain ⟨hx, rfl⟩ := hp
  rw [if_neg (by omega)] at hx
  subst hx
  refine v_wide (k' := 0) (z' := 0) (Nat.le_refl _) (Nat.le_refl _) ?_
  refine v_astore_n C dX4_lastStep_4 bsl_2_1 (by decide) rfl ?_
  refine v_aload_n C dX4_lastStep_5 rfl ?_
  refine v_ifnonnull C (tgt := 15) dX4_lastStep_6 (by decide) ?_
  refine v_aload_n C dX4_lastStep_15 rfl ?_
  refine v_getN C g66 hm9 rfl dX4_lastStep_16 ?_
  exact v_lret C rfl dX4_lastStep_19 (by omega) (by omega) (hPO _ _ ⟨rfl, rfl⟩)
theorem c_X4_lastStep {G : GG} {l : Launch} {w : Wd} {r : Nat} {T bt ml vk : Nat} {len cap n vcap : Int} {b vf : Int → Int} {M : Int → Nat} {lt ls : Int} (hB : RowR G w T r bt ml vk len cap b n M vcap vf) (hM : 0 < n → ∃ q1 q2, w (M (n - 1)) = some (100 + 4 * M (n - 1), .inr (5, [.long (lI lt), .long (lI ls), q1, q2]))) : MG G l yX4_lastStep wsX4_lastStep 5 200 0 0 [.ref r] w (pL (fun (x : Int) (w' : Wd) => x = (if n = 0 then -1 else ls) ∧ w' = w)) := by
  have hn0 := hB.2.2.1.rg
  by_cases q : n = 0
  · rw [if_pos q]; exact c_X4_lastStep_0 hB hM q
  · rw [if_neg q]; exact c_X4_lastStep_N hB hM (by omega)
set_option maxRecDepth 100000 in
set_option maxHeartbeats 400000 in
theorem c_X4_valueOf {G : GG} {l : Launch} {w : Wd} {r : Nat} {T bt ml vk : Nat} {len cap n vcap : Int} {b vf : Int → Int} {M : Int → Nat} {wi el : Int} (hB : RowR G w T r bt ml vk len cap b n M vcap vf) (hw : 0 ≤ wi ∧ wi < 200) (he : 0 ≤ el ∧ el < 64) : MG G l yX4_valueOf wsX4_valueOf 1 40 (0) (0) [.ref r, .int (iI wi), .int (iI el)] w (pI (fun (x : Int) (w' : Wd) => x = (if 64 * wi + el < vcap then vf (64 * wi + el) else 0) ∧ w' = w)) := by
  refine MG.of (cc := cX4_valueOf) (nL := 4) (ret := (some .int)) (ll := [some (.ref r), some (.int (iI wi)), some (.int (iI el)), none]) (by decide) rfl (Nat.le_of_ble_eq_true rfl) rfl ?_
  intro p e s m args below meth c C
  have hts := C.2.2.2.2.1
  have g25 : GetF G s m args 25 7 2 := getF_of C 7 2 (T := TX4) (N := 3) (Cn := RX4) (ref := "TraceBook$Row") rfl (by decide) (fun _ h => List.mem_cons_of_mem _ (List.mem_append_right _ (h))) (List.mem_of_getElem? (i := 1) rfl) (fun _ h => h)
  refine poI (P := fun PO => V G p l e _ s m args below meth c (MQW G below args s _ _ (pI PO)) w 0 0 0 _ []) (fun PO hPO => ?_)
  obtain ⟨h1, hBy, hLs, hVa, hvc, hvf⟩ := hB
  have hn0 := hLs.rg
  have hb0 := hBy.rg
  refine v_iload_n C dX4_valueOf_0 rfl ?_
  refine v_bipush C dX4_valueOf_1 rfl ?_
  refine v_imul C dX4_valueOf_3 ?_
  refine v_iload_n C dX4_valueOf_4 rfl ?_
  refine v_iadd C dX4_valueOf_5 ?_
  refine v_istore_n C dX4_valueOf_6 bsl_4_3 (by decide) rfl ?_
  refine v_iload_n C dX4_valueOf_7 rfl ?_
  refine v_if_lt C (⟨by omega, by omega⟩) (tgt := 29) dX4_valueOf_8 (by decide) (fun c_8 => ?_) (fun c_8 => ?_)
  · refine v_iconst C dX4_valueOf_29 ?_
    exact v_iret C rfl dX4_valueOf_30 (by omega) (by omega) (hPO _ _ ⟨by rw [if_neg (by omega)], rfl⟩)
  · refine v_iload_n C dX4_valueOf_11 rfl ?_
    refine v_aload_n C dX4_valueOf_12 rfl ?_
    refine v_getf C g25 h1 rfl dX4_valueOf_13 ?_
    refine v_alen C hVa (n := vcap) (i := 0) rfl (Int.toNat_of_nonneg (a := vcap) (by omega)) dX4_valueOf_16 ?_
    refine v_icmp_ge C (⟨by omega, by omega⟩) (⟨by omega, by omega⟩) (tgt := 29) dX4_valueOf_17 (by decide) (fun c_17 => ?_) (fun c_17 => ?_)
    · refine v_iconst C dX4_valueOf_29 ?_
      exact v_iret C rfl dX4_valueOf_30 (by omega) (by omega) (hPO _ _ ⟨by rw [if_neg (by omega)], rfl⟩)
    · refine v_aload_n C dX4_valueOf_20 rfl ?_
      refine v_getf C g25 h1 rfl dX4_valueOf_21 ?_
      refine v_iload_n C dX4_valueOf_24 rfl ?_
      refine v_bald C hVa (⟨by omega, by omega⟩) (by omega) (by omega) dX4_valueOf_25 ?_
      refine v_goto C (tgt := 30) dX4_valueOf_26 (by decide) ?_
      exact v_iret C rfl dX4_valueOf_30 (by omega) (by omega) (hPO _ _ ⟨by rw [if_pos (by omega), show wi * 64 + el = 64 * wi + el by omega], rfl⟩)
