theorem bsl_6_4 {x0 x1 x2 x3 x4 x5 : Option Value} {v : Value} : stL [x0, x1, x2, x3, x4, x5] 4 v = [x0, x1, x2, x3, some v, x5] := rfl
theorem ushr_ex {a s : Int} {n : Nat} (hs : s = ((8 * n : Nat) : Int)) (hn : n < 4) : ∃ v : Int, R32 v ∧ v % 256 = (a / 2 ^ (8 * n)) % 256 ∧ ((iI a).toUInt32 >>> ((iI s).toUInt32 &&& Int32.toUInt32 31)).toInt32 = iI v := by
  subst hs
  have key : ∀ k : Fin 4, (((iI ((8 * k.val : Nat) : Int)).toUInt32 &&& Int32.toUInt32 31).toBitVec % 32).toNat = 8 * k.val := by decide +kernel
  have h3 := pk_ushr (iI a) (iI ((8 * n : Nat) : Int)) (8 * n) (key ⟨n, hn⟩)
  refine ⟨_, R32_of _, ?_, iI_of _⟩
  generalize ((iI a).toUInt32 >>> ((iI ((8 * n : Nat) : Int)).toUInt32 &&& Int32.toUInt32 31)).toInt32 = X at h3
  have e1 : (iI a).toBitVec.toNat = (a % 4294967296).toNat := by
    show (BitVec.ofInt 32 a).toNat = _
    rw [BitVec.toNat_ofInt]
    rfl
  rw [e1] at h3
  have e2 : X.toInt = if 2 * X.toBitVec.toNat < 2 ^ 32 then (X.toBitVec.toNat : Int) else (X.toBitVec.toNat : Int) - ((2 ^ 32 : Nat) : Int) := BitVec.toInt_eq_toNat_cond _
  rw [e2, h3]
  rcases (by omega : n = 0 ∨ n = 1 ∨ n = 2 ∨ n = 3) with rfl | rfl | rfl | rfl
  · simp only [Nat.mul_zero, Nat.pow_zero, Nat.div_one, Int.pow_zero, Int.ediv_one]
    split <;> omega
  · simp only [Nat.mul_one]
    split <;> omega
  · show (if 2 * ((a % 4294967296).toNat / 65536) < 4294967296 then (((a % 4294967296).toNat / 65536 : Nat) : Int) else (((a % 4294967296).toNat / 65536 : Nat) : Int) - 4294967296) % 256 = a / 65536 % 256
    split <;> omega
  · show (if 2 * ((a % 4294967296).toNat / 16777216) < 4294967296 then (((a % 4294967296).toNat / 16777216 : Nat) : Int) else (((a % 4294967296).toNat / 16777216 : Nat) : Int) - 4294967296) % 256 = a / 16777216 % 256
    split <;> omega
theorem okL_MOk {nw : Int} {A1 : Int → Int} (hn : nw ≤ 200) : ∀ ML : ML3, okL nw A1 0 (-1) (fun _ => 0) ML → MOk ML := by
  refine snocI ?_ ?_
  · intro _ i a b; simp at b; omega
  · intro ML q ih h i a b
    have h2 := okL_snoc.mp h
    by_cases c : i < ML.length
    · rw [mI_lo a c]; exact ih h2.1 i a c
    · have ei : i = ML.length := by rw [List.length_append] at b; show i = _; have : ((ML.length + [q].length : Nat) : Int) = ML.length + 1 := rfl; omega
      subst ei
      rw [mI_at]
      exact ⟨⟨h2.2.1, h2.2.2.1, h2.2.2.2.1, h2.2.2.2.2.1⟩, okC_srt hn h2.2.2.2.2.2.2.2⟩
theorem plF_le {ML : ML3} {i : Int} : 0 ≤ plF ML i ∧ plF ML i ≤ ((encAll 0 (-1) (fun _ => 0) ML).length : Int) := by
  unfold plF
  have := encAll_pre (lt := 0) (ls := -1) (S := fun _ => 0) (List.take_append_drop i.toNat ML).symm
  omega
set_option maxRecDepth 100000 in
set_option maxHeartbeats 400000 in
theorem c_X6_wires {G : GG} {l : Launch} {w : Wd} {r : Nat} {wr tp ra rb : Nat} {q1 q2 : Value} {nw : Int} {A1 : Int → Int} (hb : w r = some (1, .inr (9, [.ref wr, .ref tp, .ref ra, .ref rb, q1, q2]))) (hW : WiresAt G w wr nw A1) : MG G l yX6_wires wsX6_wires 1 40 (0) (0) [.ref r] w (pI (fun (x : Int) (w' : Wd) => x = nw ∧ w' = w)) := by
  refine MG.of (cc := cX6_wires) (nL := 1) (ret := (some .int)) (ll := [some (.ref r)]) (by decide) rfl (Nat.le_of_ble_eq_true rfl) rfl ?_
  intro p e s m args below meth c C
  have hts := C.2.2.2.2.1
  have g10 : GetF G s m args 10 9 0 := getF_of C 9 0 (T := TX6) (N := 6) (Cn := RX6) (ref := "TraceBook") rfl (by decide) (fun _ h => List.mem_cons_of_mem _ (List.mem_append_left _ (List.mem_append_right _ (h)))) (List.mem_of_getElem? (i := 1) rfl) (fun _ h => h)
  have g47 : GetN G s m args 47 8 1 := getN_of C 8 1 (T := TX5) (N := 2) (Cn := RX5) (ref := "TraceBook$Wires") rfl (by decide) (fun _ h => List.mem_cons_of_mem _ (List.mem_append_right _ (h))) (List.mem_of_getElem? (i := 0) rfl) (fun _ h => h)
  refine poI (P := fun PO => V G p l e _ s m args below meth c (MQW G below args s _ _ (pI PO)) w 0 0 0 _ []) (fun PO hPO => ?_)
  refine v_aload_n C dX6_wires_0 rfl ?_
  refine v_getf C g10 hb rfl dX6_wires_1 ?_
  refine v_getN C g47 hW.cntF.choose_spec rfl dX6_wires_4 ?_
  exact v_iret C rfl dX6_wires_7 (by omega) (by omega) (hPO _ _ ⟨rfl, rfl⟩)
set_option maxRecDepth 100000 in
set_option maxHeartbeats 400000 in
theorem c_X6_width {G : GG} {l : Launch} {w : Wd} {r : Nat} {wr tp ra rb : Nat} {q1 q2 : Value} {nw : Int} {A1 : Int → Int} {i9 : Int} (hfl : l.stackTraces = false) (hb : w r = some (1, .inr (9, [.ref wr, .ref tp, .ref ra, .ref rb, q1, q2]))) (hW : WiresAt G w wr nw A1) (hi : R32 i9) : MX G l yX6_width wsX6_width 16 640 (1) (6) [.ref r, .int (iI i9)] w (pI (fun (x : Int) (w' : Wd) => x = A1 i9 ∧ (0 ≤ i9 ∧ i9 < nw) ∧ w' = w)) (fun (E : String) (w9 : Wd) => (E = "java/lang/IndexOutOfBoundsException" ∧ w9 = w ∧ ¬ (0 ≤ i9 ∧ i9 < nw))) := by
  refine MX.of (cc := cX6_width) (nL := 2) (ret := (some .int)) (ll := [some (.ref r), some (.int (iI i9))]) (by decide) rfl (Nat.le_of_ble_eq_true rfl) rfl ?_
  intro p e s m args below meth c C htab hR0
  have hts := C.2.2.2.2.1
  have g10 : GetF G s m args 10 9 0 := getF_of C 9 0 (T := TX6) (N := 6) (Cn := RX6) (ref := "TraceBook") rfl (by decide) (fun _ h => List.mem_cons_of_mem _ (List.mem_append_left _ (List.mem_append_left _ (List.mem_append_right _ (h))))) (List.mem_of_getElem? (i := 3) rfl) (fun _ h => h)
  refine poIX (P := fun PO PX => V G p l e _ s m args below meth c (MXQ G below args s _ _ (pI PO) PX) w 0 0 0 _ []) (fun PO PX hPO hPX => ?_)
  refine v_aload_n C dX6_width_0 rfl ?_
  refine v_getf C g10 hb rfl dX6_width_1 ?_
  refine v_iload_n C dX6_width_4 rfl ?_
  refine v_callVi C (q := (RX5, TX5, 2)) (As := [_]) (rest := []) (c_X5_has hW hi) (cwV 1 hts gX6_width_X5_has rfl rfl rfl (by decide +kernel) ⟨Nat.le_of_ble_eq_true rfl, Nat.le_of_ble_eq_true rfl⟩) (hW.obj.choose_spec) rfl rfl rfl (Nat.le_of_ble_eq_true rfl) dX6_width_5 (by dsimp only; omega) (by dsimp only; omega) (fun x_5 w hp => ?_)
  obtain ⟨hx_5, rfl⟩ := hp
  refine v_if_ne C (hx_5.r32) (tgt := 21) dX6_width_8 (by decide) (fun c_8 => ?_) (fun c_8 => ?_)
  · refine v_aload_n C dX6_width_21 rfl ?_
    refine v_getf C g10 hb rfl dX6_width_22 ?_
    refine v_iload_n C dX6_width_25 rfl ?_
    refine v_callVi C (q := (RX5, TX5, 2)) (As := [_]) (rest := []) (c_X5_widthOf hW hi) (cwV 1 hts gX6_width_X5_widthOf rfl rfl rfl (by decide +kernel) ⟨Nat.le_of_ble_eq_true rfl, Nat.le_of_ble_eq_true rfl⟩) (hW.obj.choose_spec) rfl rfl rfl (Nat.le_of_ble_eq_true rfl) dX6_width_26 (by dsimp only; omega) (by dsimp only; omega) (fun x_26 w hp => ?_)
    obtain ⟨hv26, rfl⟩ := hp
    have hz := hx_5.nz c_8
    rw [if_pos hz] at hv26
    refine v_x ?_
    exact v_iret C rfl dX6_width_29 (by omega) (by omega) (hPO _ _ ⟨hv26, hz, rfl⟩)
  · exact v_thrI C hfl hR0 htab rfl (List.mem_of_getElem? (i := 1) rfl) (List.mem_of_getElem? (i := 2) rfl) (List.mem_of_getElem? (i := 14) rfl) (fun w9 h => List.mem_cons_of_mem _ (List.mem_append_right _ (h))) dX6_width_11 dX6_width_14 dX6_width_15 dX6_width_17 dX6_width_20 (Nat.le_of_ble_eq_true rfl) (Nat.le_of_ble_eq_true rfl) (by dsimp only; omega) (by dsimp only; omega) (by omega) (by omega) (hPX _ _ ⟨rfl, rfl, hx_5.z c_8⟩)
set_option maxRecDepth 100000 in
set_option maxHeartbeats 400000 in
theorem c_X6_at {G : GG} {l : Launch} {w : Wd} {r : Nat} {wr tp ra rb : Nat} {q1 q2 : Value} {nw : Int} {A1 : Int → Int} {TA : Nat} {capA vcA : Int} {ML : ML3} {MA : Int → Nat} {t9 s9 i9 e9 : Int} (hfl : l.stackTraces = false) (hb : w r = some (1, .inr (9, [.ref wr, .ref tp, .ref ra, .ref rb, q1, q2]))) (hW : WiresAt G w wr nw A1) (hA1 : ∀ i, 0 ≤ i → i < nw → 1 ≤ A1 i ∧ A1 i ≤ 64) (hA : RowM G w TA ra capA vcA ML MA) (hok : okL nw A1 0 (-1) (fun _ => 0) ML) (hnw : 0 ≤ nw ∧ nw ≤ 200) (ht : R64 t9) (hs : R64 s9) (hi : R32 i9) (he : R32 e9) : MX G l yX6_at wsX6_at 16 640 (1) (6) [.ref r, .long (lI t9), .long (lI s9), .int (iI i9), .int (iI e9)] w (pI (fun (x : Int) (w' : Wd) => x = vbL t9 s9 (64 * i9 + e9) ML 0 ∧ (0 ≤ i9 ∧ i9 < nw ∧ 0 ≤ e9 ∧ e9 < A1 i9) ∧ w' = w)) (fun (E : String) (w9 : Wd) => (E = "java/lang/IndexOutOfBoundsException" ∧ w9 = w ∧ ¬ (0 ≤ i9 ∧ i9 < nw ∧ 0 ≤ e9 ∧ e9 < A1 i9))) := by
  refine MX.of (cc := cX6_at) (nL := 7) (ret := (some .int)) (ll := [some (.ref r), some (.long (lI t9)), none, some (.long (lI s9)), none, some (.int (iI i9)), some (.int (iI e9))]) (by decide) rfl (Nat.le_of_ble_eq_true rfl) rfl ?_
  intro p e s m args below meth c C htab hR0
  have hts := C.2.2.2.2.1
  have g10 : GetF G s m args 10 9 0 := getF_of C 9 0 (T := TX6) (N := 6) (Cn := RX6) (ref := "TraceBook") rfl (by decide) (fun _ h => List.mem_cons_of_mem _ (List.mem_append_left _ (List.mem_append_left _ (List.mem_append_left _ (List.mem_append_left _ (List.mem_append_left _ (List.mem_append_left _ (List.mem_append_right _ (h))))))))) (List.mem_of_getElem? (i := 3) rfl) (fun _ h => h)
  have g26 : GetF G s m args 26 9 2 := getF_of C 9 2 (T := TX6) (N := 6) (Cn := RX6) (ref := "TraceBook") rfl (by decide) (fun _ h => List.mem_cons_of_mem _ (List.mem_append_left _ (List.mem_append_left _ (List.mem_append_left _ (List.mem_append_left _ (List.mem_append_left _ (List.mem_append_left _ (List.mem_append_right _ (h))))))))) (List.mem_of_getElem? (i := 4) rfl) (fun _ h => h)
  refine poIX (P := fun PO PX => V G p l e _ s m args below meth c (MXQ G below args s _ _ (pI PO) PX) w 0 0 0 _ []) (fun PO PX hPO hPX => ?_)
  obtain ⟨bt, ml, vk, b, vf, g1, gB, gx, gM⟩ := id hA
  obtain ⟨g11, g12, g13, g14, g15⟩ := id g1
  have gn0 := g13.rg
  refine v_aload_n C dX6_at_0 rfl ?_
  refine v_getf C g10 hb rfl dX6_at_1 ?_
  refine v_iload C dX6_at_4 rfl ?_
  refine v_iload C dX6_at_6 rfl ?_
  refine v_callVi C (q := (RX5, TX5, 2)) (As := [_, _]) (rest := []) (c_X5_hasElement hW hi he hA1) (cwV 2 hts gX6_at_X5_hasElement rfl rfl rfl (by decide +kernel) ⟨Nat.le_of_ble_eq_true rfl, Nat.le_of_ble_eq_true rfl⟩) (hW.obj.choose_spec) rfl rfl rfl (Nat.le_of_ble_eq_true rfl) dX6_at_8 (by dsimp only; omega) (by dsimp only; omega) (fun x_8 w hp => ?_)
  obtain ⟨hx_8, rfl⟩ := hp
  refine v_if_ne C (hx_8.r32) (tgt := 24) dX6_at_11 (by decide) (fun c_11 => ?_) (fun c_11 => ?_)
  · have hz := hx_8.nz c_11
    have hA9 := hA1 i9 hz.1.1 hz.1.2
    refine v_aload_n C dX6_at_24 rfl ?_
    refine v_getf C g26 hb rfl dX6_at_25 ?_
    refine v_lload_n C dX6_at_28 rfl ?_
    refine v_lload_n C dX6_at_29 rfl ?_
    refine v_iload C dX6_at_30 rfl ?_
    refine v_iload C dX6_at_32 rfl ?_
    refine v_callVi C (q := (RX4, TX4, 3)) (As := [_, _, _, _]) (rest := []) (c_X4_valueBehind (wi := i9) (el := e9) g1 gM (okL_MOk hnw.2 ML hok) ⟨by omega, by omega⟩ ⟨by omega, by omega⟩ ht hs) (cwV 4 hts gX6_at_X4_valueBehind rfl rfl rfl (by decide +kernel) ⟨Nat.le_of_ble_eq_true rfl, Nat.le_of_ble_eq_true rfl⟩) (g11) rfl rfl rfl (Nat.le_of_ble_eq_true rfl) dX6_at_34 (by dsimp only; omega) (by dsimp only; omega) (fun x_34 w hp => ?_)
    obtain ⟨hx_34, rfl⟩ := hp
    refine v_x ?_
    exact v_iret C rfl dX6_at_37 (by omega) (by omega) (hPO _ _ ⟨hx_34.1, ⟨hz.1.1, hz.1.2, hz.2.1, hz.2.2⟩, rfl⟩)
  · exact v_thrI C hfl hR0 htab rfl (List.mem_of_getElem? (i := 1) rfl) (List.mem_of_getElem? (i := 2) rfl) (List.mem_of_getElem? (i := 1) rfl) (fun w9 h => List.mem_cons_of_mem _ (List.mem_append_right _ (h))) dX6_at_14 dX6_at_17 dX6_at_18 dX6_at_20 dX6_at_23 (Nat.le_of_ble_eq_true rfl) (Nat.le_of_ble_eq_true rfl) (by dsimp only; omega) (by dsimp only; omega) (by omega) (by omega) (hPX _ _ ⟨rfl, rfl, fun g => hx_8.z c_11 ⟨⟨g.1, g.2.1⟩, g.2.2⟩⟩)
set_option maxRecDepth 100000 in
set_option maxHeartbeats 400000 in
theorem c_X6_moments {G : GG} {l : Launch} {w : Wd} {r : Nat} {wr tp ra rb : Nat} {q1 q2 : Value} {TA : Nat} {capA vcA : Int} {ML : ML3} {MA : Int → Nat} (hb : w r = some (1, .inr (9, [.ref wr, .ref tp, .ref ra, .ref rb, q1, q2]))) (hA : RowM G w TA ra capA vcA ML MA) : MG G l yX6_moments wsX6_moments 16 640 (0) (0) [.ref r] w (pI (fun (x : Int) (w' : Wd) => x = ML.length ∧ w' = w)) := by
  refine MG.of (cc := cX6_moments) (nL := 1) (ret := (some .int)) (ll := [some (.ref r)]) (by decide) rfl (Nat.le_of_ble_eq_true rfl) rfl ?_
  intro p e s m args below meth c C
  have hts := C.2.2.2.2.1
  have g26 : GetF G s m args 26 9 2 := getF_of C 9 2 (T := TX6) (N := 6) (Cn := RX6) (ref := "TraceBook") rfl (by decide) (fun _ h => List.mem_cons_of_mem _ (List.mem_append_left _ (List.mem_append_left _ (List.mem_append_right _ (h))))) (List.mem_of_getElem? (i := 1) rfl) (fun _ h => h)
  have g130 : GetN G s m args 130 7 1 := getN_of C 7 1 (T := TX4) (N := 3) (Cn := RX4) (ref := "TraceBook$Row") rfl (by decide) (fun _ h => List.mem_cons_of_mem _ (List.mem_append_left _ (List.mem_append_right _ (h)))) (List.mem_of_getElem? (i := 4) rfl) (fun _ h => h)
  refine poI (P := fun PO => V G p l e _ s m args below meth c (MQW G below args s _ _ (pI PO)) w 0 0 0 _ []) (fun PO hPO => ?_)
  obtain ⟨bt, ml, vk, b, vf, g1, gB, gx, gM⟩ := id hA
  obtain ⟨g11, g12, g13, g14, g15⟩ := id g1
  have gn0 := g13.rg
  refine v_aload_n C dX6_moments_0 rfl ?_
  refine v_getf C g26 hb rfl dX6_moments_1 ?_
  refine v_getN C g130 g11 rfl dX6_moments_4 ?_
  refine v_callVi C (q := (RJx4a65c, TJx4a65c, 3)) (As := []) (rest := []) (c_Jx4a65c_size_8abf5 g13) (cwV 0 hts gX6_moments_Jx4a65c_size_8abf5 rfl rfl rfl (by decide +kernel) ⟨Nat.le_of_ble_eq_true rfl, Nat.le_of_ble_eq_true rfl⟩) (g13.obj.choose_spec) rfl rfl rfl (Nat.le_of_ble_eq_true rfl) dX6_moments_7 (by dsimp only; omega) (by dsimp only; omega) (fun x_7 w hp => ?_)
  obtain ⟨hsz9, rfl⟩ := hp
  rw [hsz9]
  refine v_wide (k' := 0) (z' := 0) (Nat.le_refl _) (Nat.le_refl _) ?_
  exact v_iret C rfl dX6_moments_10 (by omega) (by omega) (hPO _ _ ⟨rfl, rfl⟩)
set_option maxRecDepth 100000 in
set_option maxHeartbeats 400000 in
theorem c_X6_moment {G : GG} {l : Launch} {w : Wd} {r : Nat} {wr tp ra rb : Nat} {q1 q2 : Value} {TA : Nat} {capA vcA : Int} {ML : ML3} {MA : Int → Nat} {i9 e9 : Int} (hfl : l.stackTraces = false) (hb : w r = some (1, .inr (9, [.ref wr, .ref tp, .ref ra, .ref rb, q1, q2]))) (hA : RowM G w TA ra capA vcA ML MA) (hi : R32 i9) (he : R32 e9) : MX G l yX6_moment wsX6_moment 16 640 (1) (6) [.ref r, .int (iI i9), .int (iI e9)] w (pL (fun (x : Int) (w' : Wd) => (0 ≤ i9 ∧ i9 < (ML.length : Int)) ∧ ((e9 = 0 ∧ x = (mI ML i9).1) ∨ (e9 = 1 ∧ x = (mI ML i9).2.1) ∨ (e9 = 2 ∧ x = ((mI ML i9).2.2.length : Int)) ∨ (e9 = 3 ∧ x = plF ML i9)) ∧ w' = w)) (fun (E : String) (w9 : Wd) => (E = "java/lang/IndexOutOfBoundsException" ∧ w9 = w ∧ ¬ (0 ≤ i9 ∧ i9 < (ML.length : Int))) ∨ (E = "java/lang/IllegalArgumentException" ∧ w9 = w ∧ (0 ≤ i9 ∧ i9 < (ML.length : Int)) ∧ ¬ (0 ≤ e9 ∧ e9 ≤ 3))) := by
  refine MX.of (cc := cX6_moment) (nL := 4) (ret := (some .long)) (ll := [some (.ref r), some (.int (iI i9)), some (.int (iI e9)), none]) (by decide) rfl (Nat.le_of_ble_eq_true rfl) rfl ?_
  intro p e s m args below meth c C htab hR0
  have hts := C.2.2.2.2.1
  have g26 : GetF G s m args 26 9 2 := getF_of C 9 2 (T := TX6) (N := 6) (Cn := RX6) (ref := "TraceBook") rfl (by decide) (fun _ h => List.mem_cons_of_mem _ (List.mem_append_left _ (List.mem_append_left _ (List.mem_append_left _ (List.mem_append_left _ (List.mem_append_left _ (List.mem_append_right _ (h)))))))) (List.mem_of_getElem? (i := 5) rfl) (fun _ h => h)
  have g130 : GetN G s m args 130 7 1 := getN_of C 7 1 (T := TX4) (N := 3) (Cn := RX4) (ref := "TraceBook$Row") rfl (by decide) (fun _ h => List.mem_cons_of_mem _ (List.mem_append_left _ (List.mem_append_left _ (List.mem_append_left _ (List.mem_append_left _ (List.mem_append_right _ (h))))))) (List.mem_of_getElem? (i := 4) rfl) (fun _ h => h)
  have g83 : GetN G s m args 83 5 0 := getN_of C 5 0 (T := TX2) (N := 4) (Cn := RX2) (ref := "TraceBook$Moment") rfl (by decide) (fun _ h => List.mem_cons_of_mem _ (List.mem_append_left _ (List.mem_append_left _ (List.mem_append_left _ (List.mem_append_right _ (h)))))) (List.mem_of_getElem? (i := 1) rfl) (fun _ h => h)
  have g87 : GetN G s m args 87 5 1 := getN_of C 5 1 (T := TX2) (N := 4) (Cn := RX2) (ref := "TraceBook$Moment") rfl (by decide) (fun _ h => List.mem_cons_of_mem _ (List.mem_append_left _ (List.mem_append_left _ (List.mem_append_left _ (List.mem_append_right _ (h)))))) (List.mem_of_getElem? (i := 2) rfl) (fun _ h => h)
  have g120 : GetN G s m args 120 5 2 := getN_of C 5 2 (T := TX2) (N := 4) (Cn := RX2) (ref := "TraceBook$Moment") rfl (by decide) (fun _ h => List.mem_cons_of_mem _ (List.mem_append_left _ (List.mem_append_left _ (List.mem_append_left _ (List.mem_append_right _ (h)))))) (List.mem_of_getElem? (i := 3) rfl) (fun _ h => h)
  have g139 : GetN G s m args 139 5 3 := getN_of C 5 3 (T := TX2) (N := 4) (Cn := RX2) (ref := "TraceBook$Moment") rfl (by decide) (fun _ h => List.mem_cons_of_mem _ (List.mem_append_left _ (List.mem_append_left _ (List.mem_append_left _ (List.mem_append_right _ (h)))))) (List.mem_of_getElem? (i := 5) rfl) (fun _ h => h)
  refine poIX (P := fun PO PX => V G p l e _ s m args below meth c (MXQ G below args s _ _ (pL PO) PX) w 0 0 0 _ []) (fun PO PX hPO hPX => ?_)
  obtain ⟨bt, ml, vk, b, vf, g1, gB, gx, gM⟩ := id hA
  obtain ⟨g11, g12, g13, g14, g15⟩ := id g1
  have gn0 := g13.rg
  refine v_iload_n C dX6_moment_0 rfl ?_
  refine v_if_lt C (⟨by omega, by omega⟩) (tgt := 18) dX6_moment_1 (by decide) (fun c_1 => ?_) (fun c_1 => ?_)
  · exact v_thrI C hfl hR0 htab rfl (List.mem_of_getElem? (i := 1) rfl) (List.mem_of_getElem? (i := 2) rfl) (List.mem_of_getElem? (i := 4) rfl) (fun w9 h => List.mem_cons_of_mem _ (List.mem_append_left _ (List.mem_append_right _ (h)))) dX6_moment_18 dX6_moment_21 dX6_moment_22 dX6_moment_24 dX6_moment_27 (Nat.le_of_ble_eq_true rfl) (Nat.le_of_ble_eq_true rfl) (by dsimp only; omega) (by dsimp only; omega) (by omega) (by omega) (hPX _ _ (Or.inl ⟨rfl, rfl, by omega⟩))
  · refine v_iload_n C dX6_moment_4 rfl ?_
    refine v_aload_n C dX6_moment_5 rfl ?_
    refine v_getf C g26 hb rfl dX6_moment_6 ?_
    refine v_getN C g130 g11 rfl dX6_moment_9 ?_
    refine v_callVi C (q := (RJx4a65c, TJx4a65c, 3)) (As := []) (rest := [_]) (c_Jx4a65c_size_8abf5 g13) (cwV 0 hts gX6_moment_Jx4a65c_size_8abf5 rfl rfl rfl (by decide +kernel) ⟨Nat.le_of_ble_eq_true rfl, Nat.le_of_ble_eq_true rfl⟩) (g13.obj.choose_spec) rfl rfl rfl (Nat.le_of_ble_eq_true rfl) dX6_moment_12 (by dsimp only; omega) (by dsimp only; omega) (fun x_12 w hp => ?_)
    obtain ⟨hsz9, rfl⟩ := hp
    rw [hsz9]
    refine v_icmp_lt C (⟨by omega, by omega⟩) (⟨by omega, by omega⟩) (tgt := 28) dX6_moment_15 (by decide) (fun c_15 => ?_) (fun c_15 => ?_)
    · refine v_aload_n C dX6_moment_28 rfl ?_
      refine v_getf C g26 hb rfl dX6_moment_29 ?_
      refine v_getN C g130 g11 rfl dX6_moment_32 ?_
      refine v_iload_n C dX6_moment_35 rfl ?_
      refine v_callVr C (q := (RJx4a65c, TJx4a65c, 3)) (As := [_]) (rest := []) (c_Jx4a65c_get_915e3 g13 (i := i9) ⟨by omega, by omega⟩) (cwV 1 hts gX6_moment_Jx4a65c_get_915e3 rfl rfl rfl (by decide +kernel) ⟨Nat.le_of_ble_eq_true rfl, Nat.le_of_ble_eq_true rfl⟩) (g13.obj.choose_spec) rfl rfl rfl (Nat.le_of_ble_eq_true rfl) dX6_moment_36 (by dsimp only; omega) (by dsimp only; omega) (fun x_36 w hp => ?_)
      obtain ⟨rfl, rfl⟩ := hp
      obtain ⟨lr, LL, hm1, hmL, hmC⟩ := gM i9 (by omega) (by omega)
      have hmr := hmL.rg
      have hpf := plF_le (ML := ML) (i := i9)
      have hcg := hA.cap
      refine v_castY C (hm1) rfl (List.mem_of_getElem? (i := 6) rfl) rfl dX6_moment_39 ?_
      refine v_astore_n C dX6_moment_42 bsl_4_3 (by decide) rfl ?_
      refine v_iload_n C dX6_moment_43 rfl ?_
      rcases (by omega : (e9 < 0 ∨ 3 < e9) ∨ e9 = 0 ∨ e9 = 1 ∨ e9 = 2 ∨ e9 = 3) with hsw | hsw | hsw | hsw | hsw
      · refine v_tblO C (⟨by omega, by omega⟩) dX6_moment_44 hsw (tgt := 101) (by decide) ?_
        exact v_thrA C hfl hR0 htab rfl (List.mem_of_getElem? (i := 3) rfl) (List.mem_of_getElem? (i := 4) rfl) (List.mem_of_getElem? (i := 5) rfl) (fun w9 h => List.mem_cons_of_mem _ (List.mem_append_right _ (h))) dX6_moment_101 dX6_moment_104 dX6_moment_105 dX6_moment_107 dX6_moment_110 (Nat.le_of_ble_eq_true rfl) (Nat.le_of_ble_eq_true rfl) (by dsimp only; omega) (by dsimp only; omega) (by omega) (by omega) (hPX _ _ (Or.inr ⟨rfl, rfl, ⟨by omega, by omega⟩, by omega⟩))
      · refine v_tblI C (⟨by omega, by omega⟩) dX6_moment_44 (by omega) (by omega) (by rw [hsw]; rfl) (tgt := 76) (by decide) ?_
        refine v_aload_n C dX6_moment_76 rfl ?_
        refine v_getN C g83 hm1 rfl dX6_moment_77 ?_
        refine v_x ?_
        exact v_lret C rfl dX6_moment_80 (by omega) (by omega) (hPO _ _ ⟨⟨by omega, by omega⟩, Or.inl ⟨hsw, rfl⟩, rfl⟩)
      · refine v_tblI C (⟨by omega, by omega⟩) dX6_moment_44 (by omega) (by omega) (by rw [hsw]; rfl) (tgt := 81) (by decide) ?_
        refine v_aload_n C dX6_moment_81 rfl ?_
        refine v_getN C g87 hm1 rfl dX6_moment_82 ?_
        refine v_x ?_
        exact v_lret C rfl dX6_moment_85 (by omega) (by omega) (hPO _ _ ⟨⟨by omega, by omega⟩, Or.inr (Or.inl ⟨hsw, rfl⟩), rfl⟩)
      · refine v_tblI C (⟨by omega, by omega⟩) dX6_moment_44 (by omega) (by omega) (by rw [hsw]; rfl) (tgt := 86) (by decide) ?_
        refine v_aload_n C dX6_moment_86 rfl ?_
        refine v_getN C g120 hm1 rfl dX6_moment_87 ?_
        refine v_callVi C (q := (RJx4a65c, TJx4a65c, 3)) (As := []) (rest := []) (c_Jx4a65c_size_8abf5 hmL) (cwV 0 hts gX6_moment_Jx4a65c_size_8abf5 rfl rfl rfl (by decide +kernel) ⟨Nat.le_of_ble_eq_true rfl, Nat.le_of_ble_eq_true rfl⟩) (hmL.obj.choose_spec) rfl rfl rfl (Nat.le_of_ble_eq_true rfl) dX6_moment_90 (by dsimp only; omega) (by dsimp only; omega) (fun x_90 w hp => ?_)
        obtain ⟨hsz9, rfl⟩ := hp
        rw [hsz9]
        refine v_i2l C (⟨by omega, by omega⟩) dX6_moment_93 ?_
        refine v_x ?_
        exact v_lret C rfl dX6_moment_94 (by omega) (by omega) (hPO _ _ ⟨⟨by omega, by omega⟩, Or.inr (Or.inr (Or.inl ⟨hsw, rfl⟩)), rfl⟩)
      · refine v_tblI C (⟨by omega, by omega⟩) dX6_moment_44 (by omega) (by omega) (by rw [hsw]; rfl) (tgt := 95) (by decide) ?_
        refine v_aload_n C dX6_moment_95 rfl ?_
        refine v_getN C g139 hm1 rfl dX6_moment_96 ?_
        refine v_i2l C (⟨by omega, by omega⟩) dX6_moment_99 ?_
        refine v_x ?_
        exact v_lret C rfl dX6_moment_100 (by omega) (by omega) (hPO _ _ ⟨⟨by omega, by omega⟩, Or.inr (Or.inr (Or.inr ⟨hsw, rfl⟩)), rfl⟩)
    · exact v_thrI C hfl hR0 htab rfl (List.mem_of_getElem? (i := 1) rfl) (List.mem_of_getElem? (i := 2) rfl) (List.mem_of_getElem? (i := 4) rfl) (fun w9 h => List.mem_cons_of_mem _ (List.mem_append_left _ (List.mem_append_right _ (h)))) dX6_moment_18 dX6_moment_21 dX6_moment_22 dX6_moment_24 dX6_moment_27 (Nat.le_of_ble_eq_true rfl) (Nat.le_of_ble_eq_true rfl) (by dsimp only; omega) (by dsimp only; omega) (by omega) (by omega) (hPX _ _ (Or.inl ⟨rfl, rfl, by omega⟩))
set_option maxRecDepth 100000 in
set_option maxHeartbeats 400000 in
theorem c_X6_changed {G : GG} {l : Launch} {w : Wd} {r : Nat} {wr tp ra rb : Nat} {q1 q2 : Value} {TA : Nat} {capA vcA : Int} {ML : ML3} {MA : Int → Nat} {i9 e9 a9 : Int} (hfl : l.stackTraces = false) (hb : w r = some (1, .inr (9, [.ref wr, .ref tp, .ref ra, .ref rb, q1, q2]))) (hA : RowM G w TA ra capA vcA ML MA) (hi : R32 i9) (he : R32 e9) (ha : R32 a9) : MX G l yX6_changed wsX6_changed 16 640 (1) (6) [.ref r, .int (iI i9), .int (iI e9), .int (iI a9)] w (pI (fun (x : Int) (w' : Wd) => ((0 ≤ i9 ∧ i9 < (ML.length : Int)) ∧ (0 ≤ e9 ∧ e9 < ((mI ML i9).2.2.length : Int))) ∧ ((a9 = 0 ∧ x = pwL (mI ML i9).2.2 e9 / 64) ∨ (a9 = 1 ∧ x = pwL (mI ML i9).2.2 e9 % 64) ∨ (a9 = 2 ∧ x = vlL (mI ML i9).2.2 e9) ∨ (a9 = 3 ∧ x = bfF ML i9 e9)) ∧ w' = w)) (fun (E : String) (w9 : Wd) => (E = "java/lang/IndexOutOfBoundsException" ∧ w9 = w ∧ ¬ ((0 ≤ i9 ∧ i9 < (ML.length : Int)) ∧ (0 ≤ e9 ∧ e9 < ((mI ML i9).2.2.length : Int)))) ∨ (E = "java/lang/IllegalArgumentException" ∧ w9 = w ∧ ((0 ≤ i9 ∧ i9 < (ML.length : Int)) ∧ (0 ≤ e9 ∧ e9 < ((mI ML i9).2.2.length : Int))) ∧ ¬ (0 ≤ a9 ∧ a9 ≤ 3))) := by
  refine MX.of (cc := cX6_changed) (nL := 6) (ret := (some .int)) (ll := [some (.ref r), some (.int (iI i9)), some (.int (iI e9)), some (.int (iI a9)), none, none]) (by decide) rfl (Nat.le_of_ble_eq_true rfl) rfl ?_
  intro p e s m args below meth c C htab hR0
  have hts := C.2.2.2.2.1
  have g26 : GetF G s m args 26 9 2 := getF_of C 9 2 (T := TX6) (N := 6) (Cn := RX6) (ref := "TraceBook") rfl (by decide) (fun _ h => List.mem_cons_of_mem _ (List.mem_append_left _ (List.mem_append_left _ (List.mem_append_left _ (List.mem_append_left _ (List.mem_append_left _ (List.mem_append_left _ (List.mem_append_right _ (h))))))))) (List.mem_of_getElem? (i := 5) rfl) (fun _ h => h)
  have g130 : GetN G s m args 130 7 1 := getN_of C 7 1 (T := TX4) (N := 3) (Cn := RX4) (ref := "TraceBook$Row") rfl (by decide) (fun _ h => List.mem_cons_of_mem _ (List.mem_append_left _ (List.mem_append_left _ (List.mem_append_left _ (List.mem_append_left _ (List.mem_append_left _ (List.mem_append_right _ (h)))))))) (List.mem_of_getElem? (i := 4) rfl) (fun _ h => h)
  have g120 : GetN G s m args 120 5 2 := getN_of C 5 2 (T := TX2) (N := 4) (Cn := RX2) (ref := "TraceBook$Moment") rfl (by decide) (fun _ h => List.mem_cons_of_mem _ (List.mem_append_left _ (List.mem_append_left _ (List.mem_append_left _ (List.mem_append_left _ (List.mem_append_right _ (h))))))) (List.mem_of_getElem? (i := 3) rfl) (fun _ h => h)
  have g148 : GetN G s m args 148 4 0 := getN_of C 4 0 (T := TX1) (N := 4) (Cn := RX1) (ref := "TraceBook$Change") rfl (by decide) (fun _ h => List.mem_cons_of_mem _ (List.mem_append_left _ (List.mem_append_left _ (List.mem_append_left _ (List.mem_append_right _ (h)))))) (List.mem_of_getElem? (i := 6) rfl) (fun _ h => h)
  have g151 : GetN G s m args 151 4 1 := getN_of C 4 1 (T := TX1) (N := 4) (Cn := RX1) (ref := "TraceBook$Change") rfl (by decide) (fun _ h => List.mem_cons_of_mem _ (List.mem_append_left _ (List.mem_append_left _ (List.mem_append_left _ (List.mem_append_right _ (h)))))) (List.mem_of_getElem? (i := 7) rfl) (fun _ h => h)
  have g154 : GetN G s m args 154 4 2 := getN_of C 4 2 (T := TX1) (N := 4) (Cn := RX1) (ref := "TraceBook$Change") rfl (by decide) (fun _ h => List.mem_cons_of_mem _ (List.mem_append_left _ (List.mem_append_left _ (List.mem_append_left _ (List.mem_append_right _ (h)))))) (List.mem_of_getElem? (i := 8) rfl) (fun _ h => h)
  have g157 : GetN G s m args 157 4 3 := getN_of C 4 3 (T := TX1) (N := 4) (Cn := RX1) (ref := "TraceBook$Change") rfl (by decide) (fun _ h => List.mem_cons_of_mem _ (List.mem_append_left _ (List.mem_append_left _ (List.mem_append_left _ (List.mem_append_right _ (h)))))) (List.mem_of_getElem? (i := 9) rfl) (fun _ h => h)
  refine poIX (P := fun PO PX => V G p l e _ s m args below meth c (MXQ G below args s _ _ (pI PO) PX) w 0 0 0 _ []) (fun PO PX hPO hPX => ?_)
  obtain ⟨bt, ml, vk, b, vf, g1, gB, gx, gM⟩ := id hA
  obtain ⟨g11, g12, g13, g14, g15⟩ := id g1
  have gn0 := g13.rg
  refine v_iload_n C dX6_changed_0 rfl ?_
  refine v_if_lt C (⟨by omega, by omega⟩) (tgt := 18) dX6_changed_1 (by decide) (fun c_1 => ?_) (fun c_1 => ?_)
  · exact v_thrI C hfl hR0 htab rfl (List.mem_of_getElem? (i := 1) rfl) (List.mem_of_getElem? (i := 2) rfl) (List.mem_of_getElem? (i := 4) rfl) (fun w9 h => List.mem_cons_of_mem _ (List.mem_append_left _ (List.mem_append_right _ (h)))) dX6_changed_18 dX6_changed_21 dX6_changed_22 dX6_changed_24 dX6_changed_27 (Nat.le_of_ble_eq_true rfl) (Nat.le_of_ble_eq_true rfl) (by dsimp only; omega) (by dsimp only; omega) (by omega) (by omega) (hPX _ _ (Or.inl ⟨rfl, rfl, by omega⟩))
  · refine v_iload_n C dX6_changed_4 rfl ?_
    refine v_aload_n C dX6_changed_5 rfl ?_
    refine v_getf C g26 hb rfl dX6_changed_6 ?_
    refine v_getN C g130 g11 rfl dX6_changed_9 ?_
    refine v_callVi C (q := (RJx4a65c, TJx4a65c, 3)) (As := []) (rest := [_]) (c_Jx4a65c_size_8abf5 g13) (cwV 0 hts gX6_changed_Jx4a65c_size_8abf5 rfl rfl rfl (by decide +kernel) ⟨Nat.le_of_ble_eq_true rfl, Nat.le_of_ble_eq_true rfl⟩) (g13.obj.choose_spec) rfl rfl rfl (Nat.le_of_ble_eq_true rfl) dX6_changed_12 (by dsimp only; omega) (by dsimp only; omega) (fun x_12 w hp => ?_)
    obtain ⟨hsz9, rfl⟩ := hp
    rw [hsz9]
    refine v_icmp_lt C (⟨by omega, by omega⟩) (⟨by omega, by omega⟩) (tgt := 28) dX6_changed_15 (by decide) (fun c_15 => ?_) (fun c_15 => ?_)
    · refine v_aload_n C dX6_changed_28 rfl ?_
      refine v_getf C g26 hb rfl dX6_changed_29 ?_
      refine v_getN C g130 g11 rfl dX6_changed_32 ?_
      refine v_iload_n C dX6_changed_35 rfl ?_
      refine v_callVr C (q := (RJx4a65c, TJx4a65c, 3)) (As := [_]) (rest := []) (c_Jx4a65c_get_915e3 g13 (i := i9) ⟨by omega, by omega⟩) (cwV 1 hts gX6_changed_Jx4a65c_get_915e3 rfl rfl rfl (by decide +kernel) ⟨Nat.le_of_ble_eq_true rfl, Nat.le_of_ble_eq_true rfl⟩) (g13.obj.choose_spec) rfl rfl rfl (Nat.le_of_ble_eq_true rfl) dX6_changed_36 (by dsimp only; omega) (by dsimp only; omega) (fun x_36 w hp => ?_)
      obtain ⟨rfl, rfl⟩ := hp
      obtain ⟨lr, LL, hm1, hmL, hmC⟩ := gM i9 (by omega) (by omega)
      have hmr := hmL.rg
      have hpf := plF_le (ML := ML) (i := i9)
      have hcg := hA.cap
      refine v_castY C (hm1) rfl (List.mem_of_getElem? (i := 6) rfl) rfl dX6_changed_39 ?_
      refine v_astore C dX6_changed_42 bsl_6_4 (by decide) rfl ?_
      refine v_iload_n C dX6_changed_44 rfl ?_
      refine v_if_lt C (⟨by omega, by omega⟩) (tgt := 60) dX6_changed_45 (by decide) (fun c_45 => ?_) (fun c_45 => ?_)
      · exact v_thrI C hfl hR0 htab rfl (List.mem_of_getElem? (i := 1) rfl) (List.mem_of_getElem? (i := 2) rfl) (List.mem_of_getElem? (i := 6) rfl) (fun w9 h => List.mem_cons_of_mem _ (List.mem_append_left _ (List.mem_append_right _ (h)))) dX6_changed_60 dX6_changed_63 dX6_changed_64 dX6_changed_66 dX6_changed_69 (Nat.le_of_ble_eq_true rfl) (Nat.le_of_ble_eq_true rfl) (by dsimp only; omega) (by dsimp only; omega) (by omega) (by omega) (hPX _ _ (Or.inl ⟨rfl, rfl, by omega⟩))
      · refine v_iload_n C dX6_changed_48 rfl ?_
        refine v_aload C dX6_changed_49 rfl ?_
        refine v_getN C g120 hm1 rfl dX6_changed_51 ?_
        refine v_callVi C (q := (RJx4a65c, TJx4a65c, 3)) (As := []) (rest := [_]) (c_Jx4a65c_size_8abf5 hmL) (cwV 0 hts gX6_changed_Jx4a65c_size_8abf5 rfl rfl rfl (by decide +kernel) ⟨Nat.le_of_ble_eq_true rfl, Nat.le_of_ble_eq_true rfl⟩) (hmL.obj.choose_spec) rfl rfl rfl (Nat.le_of_ble_eq_true rfl) dX6_changed_54 (by dsimp only; omega) (by dsimp only; omega) (fun x_54 w hp => ?_)
        obtain ⟨hsz9, rfl⟩ := hp
        rw [hsz9]
        refine v_icmp_lt C (⟨by omega, by omega⟩) (⟨by omega, by omega⟩) (tgt := 70) dX6_changed_57 (by decide) (fun c_57 => ?_) (fun c_57 => ?_)
        · refine v_aload C dX6_changed_70 rfl ?_
          refine v_getN C g120 hm1 rfl dX6_changed_72 ?_
          refine v_iload_n C dX6_changed_75 rfl ?_
          refine v_callVr C (q := (RJx4a65c, TJx4a65c, 3)) (As := [_]) (rest := []) (c_Jx4a65c_get_915e3 hmL (i := e9) ⟨by omega, by omega⟩) (cwV 1 hts gX6_changed_Jx4a65c_get_915e3 rfl rfl rfl (by decide +kernel) ⟨Nat.le_of_ble_eq_true rfl, Nat.le_of_ble_eq_true rfl⟩) (hmL.obj.choose_spec) rfl rfl rfl (Nat.le_of_ble_eq_true rfl) dX6_changed_76 (by dsimp only; omega) (by dsimp only; omega) (fun x_76 w hp => ?_)
          obtain ⟨rfl, rfl⟩ := hp
          have hmc := hmC e9 (by omega) (by omega)
          refine v_castY C (hmc) rfl (List.mem_of_getElem? (i := 7) rfl) rfl dX6_changed_79 ?_
          refine v_astore C dX6_changed_82 bsl_6_5 (by decide) rfl ?_
          refine v_iload_n C dX6_changed_84 rfl ?_
          rcases (by omega : (a9 < 0 ∨ 3 < a9) ∨ a9 = 0 ∨ a9 = 1 ∨ a9 = 2 ∨ a9 = 3) with hsw | hsw | hsw | hsw | hsw
          · refine v_tblO C (⟨by omega, by omega⟩) dX6_changed_85 hsw (tgt := 140) (by decide) ?_
            exact v_thrA C hfl hR0 htab rfl (List.mem_of_getElem? (i := 3) rfl) (List.mem_of_getElem? (i := 4) rfl) (List.mem_of_getElem? (i := 5) rfl) (fun w9 h => List.mem_cons_of_mem _ (List.mem_append_right _ (h))) dX6_changed_140 dX6_changed_143 dX6_changed_144 dX6_changed_146 dX6_changed_149 (Nat.le_of_ble_eq_true rfl) (Nat.le_of_ble_eq_true rfl) (by dsimp only; omega) (by dsimp only; omega) (by omega) (by omega) (hPX _ _ (Or.inr ⟨rfl, rfl, ⟨⟨by omega, by omega⟩, ⟨by omega, by omega⟩⟩, by omega⟩))
          · refine v_tblI C (⟨by omega, by omega⟩) dX6_changed_85 (by omega) (by omega) (by rw [hsw]; rfl) (tgt := 116) (by decide) ?_
            refine v_aload C dX6_changed_116 rfl ?_
            refine v_getN C g148 hmc rfl dX6_changed_118 ?_
            refine v_x ?_
            exact v_iret C rfl dX6_changed_121 (by omega) (by omega) (hPO _ _ ⟨⟨⟨by omega, by omega⟩, ⟨by omega, by omega⟩⟩, Or.inl ⟨hsw, rfl⟩, rfl⟩)
          · refine v_tblI C (⟨by omega, by omega⟩) dX6_changed_85 (by omega) (by omega) (by rw [hsw]; rfl) (tgt := 122) (by decide) ?_
            refine v_aload C dX6_changed_122 rfl ?_
            refine v_getN C g151 hmc rfl dX6_changed_124 ?_
            refine v_x ?_
            exact v_iret C rfl dX6_changed_127 (by omega) (by omega) (hPO _ _ ⟨⟨⟨by omega, by omega⟩, ⟨by omega, by omega⟩⟩, Or.inr (Or.inl ⟨hsw, rfl⟩), rfl⟩)
          · refine v_tblI C (⟨by omega, by omega⟩) dX6_changed_85 (by omega) (by omega) (by rw [hsw]; rfl) (tgt := 128) (by decide) ?_
            refine v_aload C dX6_changed_128 rfl ?_
            refine v_getN C g154 hmc rfl dX6_changed_130 ?_
            refine v_x ?_
            exact v_iret C rfl dX6_changed_133 (by omega) (by omega) (hPO _ _ ⟨⟨⟨by omega, by omega⟩, ⟨by omega, by omega⟩⟩, Or.inr (Or.inr (Or.inl ⟨hsw, rfl⟩)), rfl⟩)
          · refine v_tblI C (⟨by omega, by omega⟩) dX6_changed_85 (by omega) (by omega) (by rw [hsw]; rfl) (tgt := 134) (by decide) ?_
            refine v_aload C dX6_changed_134 rfl ?_
            refine v_getN C g157 hmc rfl dX6_changed_136 ?_
            refine v_x ?_
            exact v_iret C rfl dX6_changed_139 (by omega) (by omega) (hPO _ _ ⟨⟨⟨by omega, by omega⟩, ⟨by omega, by omega⟩⟩, Or.inr (Or.inr (Or.inr ⟨hsw, rfl⟩)), rfl⟩)
        · exact v_thrI C hfl hR0 htab rfl (List.mem_of_getElem? (i := 1) rfl) (List.mem_of_getElem? (i := 2) rfl) (List.mem_of_getElem? (i := 6) rfl) (fun w9 h => List.mem_cons_of_mem _ (List.mem_append_left _ (List.mem_append_right _ (h)))) dX6_changed_60 dX6_changed_63 dX6_changed_64 dX6_changed_66 dX6_changed_69 (Nat.le_of_ble_eq_true rfl) (Nat.le_of_ble_eq_true rfl) (by dsimp only; omega) (by dsimp only; omega) (by omega) (by omega) (hPX _ _ (Or.inl ⟨rfl, rfl, by omega⟩))
    · exact v_thrI C hfl hR0 htab rfl (List.mem_of_getElem? (i := 1) rfl) (List.mem_of_getElem? (i := 2) rfl) (List.mem_of_getElem? (i := 4) rfl) (fun w9 h => List.mem_cons_of_mem _ (List.mem_append_left _ (List.mem_append_right _ (h)))) dX6_changed_18 dX6_changed_21 dX6_changed_22 dX6_changed_24 dX6_changed_27 (Nat.le_of_ble_eq_true rfl) (Nat.le_of_ble_eq_true rfl) (by dsimp only; omega) (by dsimp only; omega) (by omega) (by omega) (hPX _ _ (Or.inl ⟨rfl, rfl, by omega⟩))
set_option maxRecDepth 100000 in
set_option maxHeartbeats 400000 in
theorem c_X6_next {G : GG} {l : Launch} {w : Wd} {r : Nat} {wr tp ra rb : Nat} {q1 q2 : Value} {nw : Int} {A1 : Int → Int} {TA : Nat} {capA vcA : Int} {ML : ML3} {MA : Int → Nat} {i9 e9 : Int} (hfl : l.stackTraces = false) (hb : w r = some (1, .inr (9, [.ref wr, .ref tp, .ref ra, .ref rb, q1, q2]))) (hW : WiresAt G w wr nw A1) (hA : RowM G w TA ra capA vcA ML MA) (hok : okL nw A1 0 (-1) (fun _ => 0) ML) (hnw : 0 ≤ nw ∧ nw ≤ 200) (hi : R32 i9) (he : R32 e9) : MX G l yX6_next wsX6_next 16 640 (1) (6) [.ref r, .int (iI i9), .int (iI e9)] w (pI (fun (x : Int) (w' : Wd) => (0 ≤ i9 ∧ i9 < nw) ∧ 0 ≤ e9 ∧ NxP ML e9 i9 x ∧ w' = w)) (fun (E : String) (w9 : Wd) => (E = "java/lang/IndexOutOfBoundsException" ∧ w9 = w ∧ ¬ (0 ≤ i9 ∧ i9 < nw)) ∨ (E = "java/lang/IllegalArgumentException" ∧ w9 = w ∧ (0 ≤ i9 ∧ i9 < nw) ∧ e9 < 0)) := by
  refine MX.of (cc := cX6_next) (nL := 4) (ret := (some .int)) (ll := [some (.ref r), some (.int (iI i9)), some (.int (iI e9)), none]) (by decide) rfl (Nat.le_of_ble_eq_true rfl) rfl ?_
  intro p e s m args below meth c C htab hR0
  have hts := C.2.2.2.2.1
  have g10 : GetF G s m args 10 9 0 := getF_of C 9 0 (T := TX6) (N := 6) (Cn := RX6) (ref := "TraceBook") rfl (by decide) (fun _ h => List.mem_cons_of_mem _ (List.mem_append_left _ (List.mem_append_left _ (List.mem_append_left _ (List.mem_append_left _ (List.mem_append_left _ (List.mem_append_left _ (List.mem_append_left _ (List.mem_append_right _ (h)))))))))) (List.mem_of_getElem? (i := 5) rfl) (fun _ h => h)
  have g26 : GetF G s m args 26 9 2 := getF_of C 9 2 (T := TX6) (N := 6) (Cn := RX6) (ref := "TraceBook") rfl (by decide) (fun _ h => List.mem_cons_of_mem _ (List.mem_append_left _ (List.mem_append_left _ (List.mem_append_left _ (List.mem_append_left _ (List.mem_append_left _ (List.mem_append_left _ (List.mem_append_left _ (List.mem_append_right _ (h)))))))))) (List.mem_of_getElem? (i := 6) rfl) (fun _ h => h)
  have g130 : GetN G s m args 130 7 1 := getN_of C 7 1 (T := TX4) (N := 3) (Cn := RX4) (ref := "TraceBook$Row") rfl (by decide) (fun _ h => List.mem_cons_of_mem _ (List.mem_append_left _ (List.mem_append_left _ (List.mem_append_left _ (List.mem_append_left _ (List.mem_append_left _ (List.mem_append_left _ (List.mem_append_right _ (h))))))))) (List.mem_of_getElem? (i := 4) rfl) (fun _ h => h)
  refine poIX (P := fun PO PX => V G p l e _ s m args below meth c (MXQ G below args s _ _ (pI PO) PX) w 0 0 0 _ []) (fun PO PX hPO hPX => ?_)
  obtain ⟨bt, ml, vk, b, vf, g1, gB, gx, gM⟩ := id hA
  obtain ⟨g11, g12, g13, g14, g15⟩ := id g1
  have gn0 := g13.rg
  refine v_aload_n C dX6_next_0 rfl ?_
  refine v_getf C g10 hb rfl dX6_next_1 ?_
  refine v_iload_n C dX6_next_4 rfl ?_
  refine v_callVi C (q := (RX5, TX5, 2)) (As := [_]) (rest := []) (c_X5_has hW hi) (cwV 1 hts gX6_next_X5_has rfl rfl rfl (by decide +kernel) ⟨Nat.le_of_ble_eq_true rfl, Nat.le_of_ble_eq_true rfl⟩) (hW.obj.choose_spec) rfl rfl rfl (Nat.le_of_ble_eq_true rfl) dX6_next_5 (by dsimp only; omega) (by dsimp only; omega) (fun x_5 w hp => ?_)
  obtain ⟨hx_5, rfl⟩ := hp
  refine v_if_ne C (hx_5.r32) (tgt := 21) dX6_next_8 (by decide) (fun c_8 => ?_) (fun c_8 => ?_)
  · refine v_iload_n C dX6_next_21 rfl ?_
    refine v_if_ge C (⟨by omega, by omega⟩) (tgt := 35) dX6_next_22 (by decide) (fun c_22 => ?_) (fun c_22 => ?_)
    · have hz := hx_5.nz c_8
      have hMOk := okL_MOk hnw.2 ML hok
      refine v_iload_n C dX6_next_35 rfl ?_
      refine v_istore_n C dX6_next_36 bsl_4_3 (by decide) rfl ?_
      have L37 : ∀ (N : Nat) (k9 : Int), (e9 ≤ k9 ∧ R32 k9) → (∀ i : Int, e9 ≤ i → i < k9 → ¬ (∃ j : Int, 0 ≤ j ∧ j < ((mI ML i).2.2.length : Int) ∧ pwL (mI ML i).2.2 j / 64 = i9)) → ((ML.length : Int) - k9).toNat < N → V G p l e { frames := 16, cells := 1, slots := 6, locals := 640 } s m args below meth c (MXQ G below args s (1) (6) (pI PO) PX) w (0) (0) 37 [some (.ref r), some (.int (iI i9)), some (.int (iI e9)), some (.int (iI k9))] [] := by
        intro N
        induction N with
        | zero => intro k9 hk9 hno hm; exact absurd hm (Nat.not_lt_zero _)
        | succ N ih =>
          intro k9 hk9 hno hm
          refine v_iload_n C dX6_next_37 rfl ?_
          refine v_aload_n C dX6_next_38 rfl ?_
          refine v_getf C g26 hb rfl dX6_next_39 ?_
          refine v_getN C g130 g11 rfl dX6_next_42 ?_
          refine v_callVi C (q := (RJx4a65c, TJx4a65c, 3)) (As := []) (rest := [_]) (c_Jx4a65c_size_8abf5 g13) (cwV 0 hts gX6_next_Jx4a65c_size_8abf5 rfl rfl rfl (by decide +kernel) ⟨Nat.le_of_ble_eq_true rfl, Nat.le_of_ble_eq_true rfl⟩) (g13.obj.choose_spec) rfl rfl rfl (Nat.le_of_ble_eq_true rfl) dX6_next_45 (by dsimp only; omega) (by dsimp only; omega) (fun x_45 w hp => ?_)
          obtain ⟨hsz9, rfl⟩ := hp
          rw [hsz9]
          refine v_icmp_ge C (⟨by omega, by omega⟩) (⟨by omega, by omega⟩) (tgt := 80) dX6_next_48 (by decide) (fun c_48 => ?_) (fun c_48 => ?_)
          · refine v_iconst C dX6_next_80 ?_
            refine v_x ?_
            exact v_iret C rfl dX6_next_81 (by omega) (by omega) (hPO _ _ ⟨hz, by omega, Or.inr ⟨fun i a b => hno i a (by omega), rfl⟩, rfl⟩)
          · refine v_aload_n C dX6_next_51 rfl ?_
            refine v_getf C g26 hb rfl dX6_next_52 ?_
            refine v_getN C g130 g11 rfl dX6_next_55 ?_
            refine v_iload_n C dX6_next_58 rfl ?_
            refine v_callVr C (q := (RJx4a65c, TJx4a65c, 3)) (As := [_]) (rest := []) (c_Jx4a65c_get_915e3 g13 (i := k9) ⟨by omega, by omega⟩) (cwV 1 hts gX6_next_Jx4a65c_get_915e3 rfl rfl rfl (by decide +kernel) ⟨Nat.le_of_ble_eq_true rfl, Nat.le_of_ble_eq_true rfl⟩) (g13.obj.choose_spec) rfl rfl rfl (Nat.le_of_ble_eq_true rfl) dX6_next_59 (by dsimp only; omega) (by dsimp only; omega) (fun x_59 w hp => ?_)
            obtain ⟨rfl, rfl⟩ := hp
            have hmo := gM k9 (by omega) (by omega)
            obtain ⟨lr, LL, hm1, hmL, hmC⟩ := id hmo
            refine v_castY C (hm1) rfl (List.mem_of_getElem? (i := 7) rfl) rfl dX6_next_62 ?_
            refine v_iload_n C dX6_next_65 rfl ?_
            refine v_callVi C (q := (RX2, TX2, 4)) (As := [_]) (rest := []) (c_X2_changesWire (wi := i9) hmo (hMOk k9 (by omega) (by omega)).2.1 ⟨by omega, by omega⟩) (cwV 1 hts gX6_next_X2_changesWire rfl rfl rfl (by decide +kernel) ⟨Nat.le_of_ble_eq_true rfl, Nat.le_of_ble_eq_true rfl⟩) (hm1) rfl rfl rfl (Nat.le_of_ble_eq_true rfl) dX6_next_66 (by dsimp only; omega) (by dsimp only; omega) (fun x_66 w hp => ?_)
            obtain ⟨hx_66, rfl⟩ := hp
            refine v_if_eq C (hx_66.r32) (tgt := 74) dX6_next_69 (by decide) (fun c_69 => ?_) (fun c_69 => ?_)
            · refine v_iinc C dX6_next_74 rfl bsl_4_3 (by decide) rfl ?_
              refine v_goto C (tgt := 37) dX6_next_77 (by decide) ?_
              exact ih (k9 + 1) ⟨by omega, ⟨by omega, by omega⟩⟩ (fun i a b => by
                by_cases q : i = k9
                · rw [q]; exact hx_66.z c_69
                · exact hno i a (by omega)) (by omega)
            · refine v_iload_n C dX6_next_72 rfl ?_
              refine v_x ?_
              exact v_iret C rfl dX6_next_73 (by omega) (by omega) (hPO _ _ ⟨hz, by omega, Or.inl ⟨k9, ⟨hk9.1, by omega, by omega⟩, hx_66.nz c_69, hno, rfl⟩, rfl⟩)
      exact L37 _ e9 ⟨by omega, he⟩ (fun i a b => by omega) (Nat.lt_succ_self _)
    · exact v_thrA C hfl hR0 htab rfl (List.mem_of_getElem? (i := 3) rfl) (List.mem_of_getElem? (i := 4) rfl) (List.mem_of_getElem? (i := 7) rfl) (fun w9 h => List.mem_cons_of_mem _ (List.mem_append_right _ (h))) dX6_next_25 dX6_next_28 dX6_next_29 dX6_next_31 dX6_next_34 (Nat.le_of_ble_eq_true rfl) (Nat.le_of_ble_eq_true rfl) (by dsimp only; omega) (by dsimp only; omega) (by omega) (by omega) (hPX _ _ (Or.inr ⟨rfl, rfl, hx_5.nz c_8, by omega⟩))
  · exact v_thrI C hfl hR0 htab rfl (List.mem_of_getElem? (i := 1) rfl) (List.mem_of_getElem? (i := 2) rfl) (List.mem_of_getElem? (i := 14) rfl) (fun w9 h => List.mem_cons_of_mem _ (List.mem_append_left _ (List.mem_append_right _ (h)))) dX6_next_11 dX6_next_14 dX6_next_15 dX6_next_17 dX6_next_20 (Nat.le_of_ble_eq_true rfl) (Nat.le_of_ble_eq_true rfl) (by dsimp only; omega) (by dsimp only; omega) (by omega) (by omega) (hPX _ _ (Or.inl ⟨rfl, rfl, hx_5.z c_8⟩))
set_option maxRecDepth 100000 in
set_option maxHeartbeats 400000 in
theorem c_X6_size {G : GG} {l : Launch} {w : Wd} {r : Nat} {wr tp ra rb : Nat} {q1 q2 : Value} {TA : Nat} {capA vcA : Int} {ML : ML3} {MA : Int → Nat} (hb : w r = some (1, .inr (9, [.ref wr, .ref tp, .ref ra, .ref rb, q1, q2]))) (hA : RowM G w TA ra capA vcA ML MA) : MG G l yX6_size wsX6_size 1 40 (0) (0) [.ref r] w (pI (fun (x : Int) (w' : Wd) => x = ((encAll 0 (-1) (fun _ => 0) ML).length : Int) ∧ w' = w)) := by
  refine MG.of (cc := cX6_size) (nL := 1) (ret := (some .int)) (ll := [some (.ref r)]) (by decide) rfl (Nat.le_of_ble_eq_true rfl) rfl ?_
  intro p e s m args below meth c C
  have hts := C.2.2.2.2.1
  have g26 : GetF G s m args 26 9 2 := getF_of C 9 2 (T := TX6) (N := 6) (Cn := RX6) (ref := "TraceBook") rfl (by decide) (fun _ h => List.mem_cons_of_mem _ (List.mem_append_left _ (List.mem_append_left _ (List.mem_append_right _ (h))))) (List.mem_of_getElem? (i := 1) rfl) (fun _ h => h)
  have g169 : GetN G s m args 169 7 0 := getN_of C 7 0 (T := TX4) (N := 3) (Cn := RX4) (ref := "TraceBook$Row") rfl (by decide) (fun _ h => List.mem_cons_of_mem _ (List.mem_append_left _ (List.mem_append_right _ (h)))) (List.mem_of_getElem? (i := 10) rfl) (fun _ h => h)
  have g172 : GetN G s m args 172 3 1 := getN_of C 3 1 (T := TX0) (N := 2) (Cn := RX0) (ref := "TraceBook$Bytes") rfl (by decide) (fun _ h => List.mem_cons_of_mem _ (List.mem_append_right _ (h))) (List.mem_of_getElem? (i := 11) rfl) (fun _ h => h)
  refine poI (P := fun PO => V G p l e _ s m args below meth c (MQW G below args s _ _ (pI PO)) w 0 0 0 _ []) (fun PO hPO => ?_)
  obtain ⟨bt, ml, vk, b, vf, g1, gB, gx, gM⟩ := id hA
  obtain ⟨g11, g12, g13, g14, g15⟩ := id g1
  have gn0 := g13.rg
  refine v_aload_n C dX6_size_0 rfl ?_
  refine v_getf C g26 hb rfl dX6_size_1 ?_
  refine v_getN C g169 g11 rfl dX6_size_4 ?_
  refine v_getN C g172 g12.lenF.choose_spec rfl dX6_size_7 ?_
  exact v_iret C rfl dX6_size_10 (by omega) (by omega) (hPO _ _ ⟨rfl, rfl⟩)
set_option maxRecDepth 100000 in
set_option maxHeartbeats 400000 in
theorem c_X6_byteAt {G : GG} {l : Launch} {w : Wd} {r : Nat} {wr tp ra rb : Nat} {q1 q2 : Value} {TA : Nat} {capA vcA : Int} {ML : ML3} {MA : Int → Nat} {i9 : Int} (hfl : l.stackTraces = false) (hb : w r = some (1, .inr (9, [.ref wr, .ref tp, .ref ra, .ref rb, q1, q2]))) (hA : RowM G w TA ra capA vcA ML MA) (hi : R32 i9) : MX G l yX6_byteAt wsX6_byteAt 16 640 (1) (6) [.ref r, .int (iI i9)] w (pI (fun (x : Int) (w' : Wd) => (0 ≤ i9 ∧ i9 < ((encAll 0 (-1) (fun _ => 0) ML).length : Int)) ∧ (∀ f, holds f 0 (encAll 0 (-1) (fun _ => 0) ML) → x = f i9) ∧ w' = w)) (fun (E : String) (w9 : Wd) => (E = "java/lang/IndexOutOfBoundsException" ∧ w9 = w ∧ ¬ (0 ≤ i9 ∧ i9 < ((encAll 0 (-1) (fun _ => 0) ML).length : Int)))) := by
  refine MX.of (cc := cX6_byteAt) (nL := 2) (ret := (some .int)) (ll := [some (.ref r), some (.int (iI i9))]) (by decide) rfl (Nat.le_of_ble_eq_true rfl) rfl ?_
  intro p e s m args below meth c C htab hR0
  have hts := C.2.2.2.2.1
  have g26 : GetF G s m args 26 9 2 := getF_of C 9 2 (T := TX6) (N := 6) (Cn := RX6) (ref := "TraceBook") rfl (by decide) (fun _ h => List.mem_cons_of_mem _ (List.mem_append_left _ (List.mem_append_left _ (List.mem_append_left _ (List.mem_append_right _ (h)))))) (List.mem_of_getElem? (i := 3) rfl) (fun _ h => h)
  have g169 : GetN G s m args 169 7 0 := getN_of C 7 0 (T := TX4) (N := 3) (Cn := RX4) (ref := "TraceBook$Row") rfl (by decide) (fun _ h => List.mem_cons_of_mem _ (List.mem_append_left _ (List.mem_append_left _ (List.mem_append_right _ (h))))) (List.mem_of_getElem? (i := 10) rfl) (fun _ h => h)
  have g172 : GetN G s m args 172 3 1 := getN_of C 3 1 (T := TX0) (N := 2) (Cn := RX0) (ref := "TraceBook$Bytes") rfl (by decide) (fun _ h => List.mem_cons_of_mem _ (List.mem_append_left _ (List.mem_append_right _ (h)))) (List.mem_of_getElem? (i := 11) rfl) (fun _ h => h)
  refine poIX (P := fun PO PX => V G p l e _ s m args below meth c (MXQ G below args s _ _ (pI PO) PX) w 0 0 0 _ []) (fun PO PX hPO hPX => ?_)
  obtain ⟨bt, ml, vk, b, vf, g1, gB, gx, gM⟩ := id hA
  obtain ⟨g11, g12, g13, g14, g15⟩ := id g1
  have gn0 := g13.rg
  have hcg := hA.cap
  refine v_iload_n C dX6_byteAt_0 rfl ?_
  refine v_if_lt C (⟨by omega, by omega⟩) (tgt := 18) dX6_byteAt_1 (by decide) (fun c_1 => ?_) (fun c_1 => ?_)
  · exact v_thrI C hfl hR0 htab rfl (List.mem_of_getElem? (i := 1) rfl) (List.mem_of_getElem? (i := 2) rfl) (List.mem_of_getElem? (i := 8) rfl) (fun w9 h => List.mem_cons_of_mem _ (List.mem_append_right _ (h))) dX6_byteAt_18 dX6_byteAt_21 dX6_byteAt_22 dX6_byteAt_24 dX6_byteAt_27 (Nat.le_of_ble_eq_true rfl) (Nat.le_of_ble_eq_true rfl) (by dsimp only; omega) (by dsimp only; omega) (by omega) (by omega) (hPX _ _ ⟨rfl, rfl, by omega⟩)
  · refine v_iload_n C dX6_byteAt_4 rfl ?_
    refine v_aload_n C dX6_byteAt_5 rfl ?_
    refine v_getf C g26 hb rfl dX6_byteAt_6 ?_
    refine v_getN C g169 g11 rfl dX6_byteAt_9 ?_
    refine v_getN C g172 g12.lenF.choose_spec rfl dX6_byteAt_12 ?_
    refine v_icmp_lt C (⟨by omega, by omega⟩) (⟨by omega, by omega⟩) (tgt := 28) dX6_byteAt_15 (by decide) (fun c_15 => ?_) (fun c_15 => ?_)
    · refine v_aload_n C dX6_byteAt_28 rfl ?_
      refine v_getf C g26 hb rfl dX6_byteAt_29 ?_
      refine v_getN C g169 g11 rfl dX6_byteAt_32 ?_
      refine v_iload_n C dX6_byteAt_35 rfl ?_
      refine v_callVi C (q := (RX0, TX0, 2)) (As := [_]) (rest := []) (c_X0_get g12 hi) (cwV 1 hts gX6_byteAt_X0_get rfl rfl rfl (by decide +kernel) ⟨Nat.le_of_ble_eq_true rfl, Nat.le_of_ble_eq_true rfl⟩) (g12.obj.choose_spec) rfl rfl rfl (Nat.le_of_ble_eq_true rfl) dX6_byteAt_36 (by dsimp only; omega) (by dsimp only; omega) (fun x_36 w hp => ?_)
      obtain ⟨hx_36, rfl⟩ := hp
      refine v_x ?_
      exact v_iret C rfl dX6_byteAt_39 (by omega) (by omega) (hPO _ _ ⟨⟨by omega, by omega⟩, fun f hf => by
          rw [hx_36, if_pos ⟨by omega, by omega⟩]
          have e1 := holds_get gB i9.toNat (by omega)
          have e2 := holds_get hf i9.toNat (by omega)
          rw [Int.zero_add, show ((i9.toNat : Nat) : Int) = i9 by omega] at e1 e2
          rw [e1, e2], rfl⟩)
    · exact v_thrI C hfl hR0 htab rfl (List.mem_of_getElem? (i := 1) rfl) (List.mem_of_getElem? (i := 2) rfl) (List.mem_of_getElem? (i := 8) rfl) (fun w9 h => List.mem_cons_of_mem _ (List.mem_append_right _ (h))) dX6_byteAt_18 dX6_byteAt_21 dX6_byteAt_22 dX6_byteAt_24 dX6_byteAt_27 (Nat.le_of_ble_eq_true rfl) (Nat.le_of_ble_eq_true rfl) (by dsimp only; omega) (by dsimp only; omega) (by omega) (by omega) (hPX _ _ ⟨rfl, rfl, by omega⟩)
set_option maxRecDepth 100000 in
set_option maxHeartbeats 400000 in
theorem c_X6_end {G : GG} {l : Launch} {w : Wd} {r : Nat} {wr tp ra rb : Nat} {q1 q2 : Value} {tz capT : Int} {T : Int → Int} {i9 : Int} (hfl : l.stackTraces = false) (hb : w r = some (1, .inr (9, [.ref wr, .ref tp, .ref ra, .ref rb, q1, q2]))) (hT : BytesAt G w 4 tp tz capT T) (hi : R32 i9) : MX G l yX6_end wsX6_end 16 640 (1) (6) [.ref r, .int (iI i9)] w (pV (fun (w' : Wd) => (0 ≤ i9 ∧ i9 ≤ tz) ∧ w' r = some (1, .inr (9, [.ref wr, .ref tp, .ref ra, .ref rb, q1, q2])) ∧ BytesAt G w' 4 tp i9 capT T ∧ Fr (fun t => t = 4 ∨ t = 5 ∨ t = 0) w w')) (fun (E : String) (w9 : Wd) => E = "java/lang/IllegalArgumentException" ∧ w9 = w ∧ ¬ (0 ≤ i9 ∧ i9 ≤ tz)) := by
  refine MX.of (cc := cX6_end) (nL := 2) (ret := none) (ll := [some (.ref r), some (.int (iI i9))]) (by decide) rfl (Nat.le_of_ble_eq_true rfl) rfl ?_
  intro p e s m args below meth c C htab hR0
  have hts := C.2.2.2.2.1
  have g19 : GetF G s m args 19 9 1 := getF_of C 9 1 (T := TX6) (N := 6) (Cn := RX6) (ref := "TraceBook") rfl (by decide) (fun _ h => List.mem_cons_of_mem _ (List.mem_append_left _ (List.mem_append_left _ (List.mem_append_right _ (h))))) (List.mem_of_getElem? (i := 3) rfl) (fun _ h => h)
  have g172 : GetN G s m args 172 3 1 := getN_of C 3 1 (T := TX0) (N := 2) (Cn := RX0) (ref := "TraceBook$Bytes") rfl (by decide) (fun _ h => List.mem_cons_of_mem _ (List.mem_append_left _ (List.mem_append_right _ (h)))) (List.mem_of_getElem? (i := 11) rfl) (fun _ h => h)
  refine poVX (P := fun PO PX => V G p l e _ s m args below meth c (MXQ G below args s _ _ (pV PO) PX) w 0 0 0 _ []) (fun PO PX hPO hPX => ?_)
  obtain ⟨w0, hw0⟩ : ∃ z, z = w := ⟨_, rfl⟩
  rw [← hw0] at hPO hPX
  have hF : Fr (fun t => t = 4 ∨ t = 5 ∨ t = 0) w0 w := by rw [hw0]; exact Fr.rf
  have hg := hT.rg
  refine v_iload_n C dX6_end_0 rfl ?_
  refine v_if_lt C (⟨by omega, by omega⟩) (tgt := 15) dX6_end_1 (by decide) (fun c_1 => ?_) (fun c_1 => ?_)
  · exact v_thrA C hfl hR0 htab rfl (List.mem_of_getElem? (i := 1) rfl) (List.mem_of_getElem? (i := 2) rfl) (List.mem_of_getElem? (i := 10) rfl) (fun w9 h => List.mem_cons_of_mem _ (List.mem_append_right _ (h))) dX6_end_15 dX6_end_18 dX6_end_19 dX6_end_21 dX6_end_24 (Nat.le_of_ble_eq_true rfl) (Nat.le_of_ble_eq_true rfl) (by dsimp only; omega) (by dsimp only; omega) (by omega) (by omega) (hPX _ _ ⟨rfl, hw0.symm, by omega⟩)
  · refine v_iload_n C dX6_end_4 rfl ?_
    refine v_aload_n C dX6_end_5 rfl ?_
    refine v_getf C g19 hb rfl dX6_end_6 ?_
    refine v_getN C g172 hT.lenF.choose_spec rfl dX6_end_9 ?_
    refine v_icmp_le C (⟨by omega, by omega⟩) (⟨by omega, by omega⟩) (tgt := 25) dX6_end_12 (by decide) (fun c_12 => ?_) (fun c_12 => ?_)
    · refine v_aload_n C dX6_end_25 rfl ?_
      refine v_getf C g19 hb rfl dX6_end_26 ?_
      refine v_iload_n C dX6_end_29 rfl ?_
      refine v_callVv C (q := (RX0, TX0, 2)) (As := [_]) (rest := []) (c_X0_cut hT (n := i9) ⟨by omega, by omega⟩) (cwV 1 hts gX6_end_X0_cut rfl rfl rfl (by decide +kernel) ⟨Nat.le_of_ble_eq_true rfl, Nat.le_of_ble_eq_true rfl⟩) (hT.obj.choose_spec) rfl rfl rfl (Nat.le_of_ble_eq_true rfl) dX6_end_30 (by dsimp only; omega) (by dsimp only; omega) (fun w hp => ?_)
      obtain ⟨hT, hF9⟩ := hp
      have hb := hF9 _ _ _ (fun h9 => by have h8 : 1 = 4 ∨ 1 = 4 + 1 ∨ 1 = 0 := h9; omega) hb
      have hF := hF.tr (hF9.mono (fun t h9 => by have h8 : t = 4 ∨ t = 4 + 1 ∨ t = 0 := h9; show t = 4 ∨ t = 5 ∨ t = 0; omega))
      refine v_x ?_
      exact v_vret C rfl dX6_end_33 (by omega) (by omega) (hPO _ ⟨⟨by omega, by omega⟩, hb, hT, hF⟩)
    · exact v_thrA C hfl hR0 htab rfl (List.mem_of_getElem? (i := 1) rfl) (List.mem_of_getElem? (i := 2) rfl) (List.mem_of_getElem? (i := 10) rfl) (fun w9 h => List.mem_cons_of_mem _ (List.mem_append_right _ (h))) dX6_end_15 dX6_end_18 dX6_end_19 dX6_end_21 dX6_end_24 (Nat.le_of_ble_eq_true rfl) (Nat.le_of_ble_eq_true rfl) (by dsimp only; omega) (by dsimp only; omega) (by omega) (by omega) (hPX _ _ ⟨rfl, hw0.symm, by omega⟩)
set_option maxRecDepth 100000 in
set_option maxHeartbeats 400000 in
theorem c_X6_feed {G : GG} {l : Launch} {w : Wd} {r : Nat} {wr tp ra rb : Nat} {q1 q2 : Value} {tz capT : Int} {T : Int → Int} {i9 capT2 : Int} (hfl : l.stackTraces = false) (hb : w r = some (1, .inr (9, [.ref wr, .ref tp, .ref ra, .ref rb, q1, q2]))) (hT : BytesAt G w 4 tp tz capT T) (hi : R32 i9) (hc : Cap capT (tz + 4) capT2) (hc2 : capT2 ≤ 1000000) : MX G l yX6_feed wsX6_feed 16 640 ((1 + (capT2 - capT).toNat)) ((6 + (2 * (capT2 - capT)).toNat)) [.ref r, .int (iI i9)] w (pI (fun (x : Int) (w' : Wd) => tz ≤ 59996 ∧ x = tz + 4 ∧ w' r = some (1, .inr (9, [.ref wr, .ref tp, .ref ra, .ref rb, q1, q2])) ∧ BytesAt G w' 4 tp (tz + 4) capT2 (putL T tz (fbL i9 4)) ∧ Fr (fun t => t = 4 ∨ t = 5 ∨ t = 0) w w')) (fun (E : String) (w9 : Wd) => E = "java/lang/IllegalStateException" ∧ w9 = w ∧ 59996 < tz) := by
  refine MX.of (cc := cX6_feed) (nL := 3) (ret := (some .int)) (ll := [some (.ref r), some (.int (iI i9)), none]) (by decide) rfl (Nat.le_of_ble_eq_true rfl) rfl ?_
  intro p e s m args below meth c C htab hR0
  have hts := C.2.2.2.2.1
  have g19 : GetF G s m args 19 9 1 := getF_of C 9 1 (T := TX6) (N := 6) (Cn := RX6) (ref := "TraceBook") rfl (by decide) (fun _ h => List.mem_cons_of_mem _ (List.mem_append_left _ (List.mem_append_left _ (List.mem_append_right _ (h))))) (List.mem_of_getElem? (i := 3) rfl) (fun _ h => h)
  have g172 : GetN G s m args 172 3 1 := getN_of C 3 1 (T := TX0) (N := 2) (Cn := RX0) (ref := "TraceBook$Bytes") rfl (by decide) (fun _ h => List.mem_cons_of_mem _ (List.mem_append_left _ (List.mem_append_right _ (h)))) (List.mem_of_getElem? (i := 11) rfl) (fun _ h => h)
  refine poIX (P := fun PO PX => V G p l e _ s m args below meth c (MXQ G below args s _ _ (pI PO) PX) w 0 0 0 _ []) (fun PO PX hPO hPX => ?_)
  obtain ⟨w0, hw0⟩ : ∃ z, z = w := ⟨_, rfl⟩
  rw [← hw0] at hPO hPX
  have hF : Fr (fun t => t = 4 ∨ t = 5 ∨ t = 0) w0 w := by rw [hw0]; exact Fr.rf
  have hg := hT.rg
  refine v_aload_n C dX6_feed_0 rfl ?_
  refine v_getf C g19 hb rfl dX6_feed_1 ?_
  refine v_getN C g172 hT.lenF.choose_spec rfl dX6_feed_4 ?_
  refine v_ldcI C (v := 59996) (List.mem_of_getElem? (i := 4) rfl) (by decide +kernel) dX6_feed_7 ?_
  refine v_icmp_le C (⟨by omega, by omega⟩) (⟨by omega, by omega⟩) (tgt := 22) dX6_feed_9 (by decide) (fun c_9 => ?_) (fun c_9 => ?_)
  · refine v_bipush C dX6_feed_22 rfl ?_
    refine v_istore_n C dX6_feed_24 bsl_3_2 (by decide) rfl ?_
    have L25 : ∀ (N : Nat) (w : Wd) (s9 len1 cap1 : Int) (n9 : Nat) (b1 : Int → Int), (w r = some (1, .inr (9, [.ref wr, .ref tp, .ref ra, .ref rb, q1, q2]))) → (BytesAt G w 4 tp len1 cap1 b1) → (Fr (fun t => t = 4 ∨ t = 5 ∨ t = 0) w0 w) → (s9 = 8 * (n9 : Int) - 8 ∧ n9 ≤ 4) → (len1 + n9 = tz + 4 ∧ tz ≤ len1) → (putL b1 len1 (fbL i9 n9) = putL T tz (fbL i9 4)) → (Cap capT len1 cap1) → (s9 + 8).toNat < N → V G p l e { frames := 16, cells := (1 + (capT2 - capT).toNat), slots := (6 + (2 * (capT2 - capT)).toNat), locals := 640 } s m args below meth c (MXQ G below args s ((1 + (capT2 - capT).toNat)) ((6 + (2 * (capT2 - capT)).toNat)) (pI PO) PX) w ((cap1 - capT).toNat) ((2 * (cap1 - capT)).toNat) 25 [some (.ref r), some (.int (iI i9)), some (.int (iI s9))] [] := by
      intro N
      induction N with
      | zero => intro w s9 len1 cap1 n9 b1 hb hT hF hs hl hp9 hcp hm; exact absurd hm (Nat.not_lt_zero _)
      | succ N ih =>
        intro w s9 len1 cap1 n9 b1 hb hT hF hs hl hp9 hcp hm
        refine v_iload_n C dX6_feed_25 rfl ?_
        refine v_if_lt C (⟨by omega, by omega⟩) (tgt := 45) dX6_feed_26 (by decide) (fun c_26 => ?_) (fun c_26 => ?_)
        · have hg9 := hT.rg
          have hn0 : n9 = 0 := by omega
          subst hn0
          have hl4 : len1 = tz + 4 := by omega
          have hcx : cap1 = capT2 := by rw [hl4] at hcp; exact hcp.uniq hc
          have hp8 : b1 = putL T tz (fbL i9 4) := hp9
          rw [hl4, hcx, hp8] at hT
          have hge := hc.ge (by omega)
          refine v_aload_n C dX6_feed_45 rfl ?_
          refine v_getf C g19 hb rfl dX6_feed_46 ?_
          refine v_getN C g172 hT.lenF.choose_spec rfl dX6_feed_49 ?_
          refine v_x ?_
          exact v_iret C rfl dX6_feed_52 (by omega) (by omega) (hPO _ _ ⟨by omega, rfl, hb, hT, hF⟩)
        · obtain ⟨v9, hv9, hv9m, hv9e⟩ := ushr_ex (a := i9) (s := s9) (n := n9 - 1) (by omega) (by omega)
          have hn9 : fbL i9 n9 = (i9 / 2 ^ (8 * (n9 - 1))) % 256 :: fbL i9 (n9 - 1) := by
            rw [show n9 = (n9 - 1) + 1 by omega]
            rfl
          have hg9 := hT.rg
          obtain ⟨cN, hcN⟩ := Cap.ex (c := cap1) (l := len1 + 1) (by omega)
          have hge := hcp.ge (by omega)
          have hgN := hcN.ge (by omega)
          have hN := (hcp.tr (by omega) hcN (by omega)).mono hc (by omega)
          have hN2 : cN ≤ 1000000 := by omega
          refine v_aload_n C dX6_feed_29 rfl ?_
          refine v_getf C g19 hb rfl dX6_feed_30 ?_
          refine v_iload_n C dX6_feed_33 rfl ?_
          refine v_iload_n C dX6_feed_34 rfl ?_
          refine v_iushr C (hv9e) dX6_feed_35 ?_
          refine v_callVv C (q := (RX0, TX0, 2)) (As := [_]) (rest := []) (c_X0_add (x9 := v9) hT (by omega) hv9 hcN hN2) (cwV 1 hts gX6_feed_X0_add rfl rfl rfl (by decide +kernel) ⟨Nat.le_of_ble_eq_true rfl, Nat.le_of_ble_eq_true rfl⟩) (hT.obj.choose_spec) rfl rfl rfl (Nat.le_of_ble_eq_true rfl) dX6_feed_36 (by dsimp only; omega) (by dsimp only; omega) (fun w hp => ?_)
          obtain ⟨hT, hF9⟩ := hp
          have hb := hF9 _ _ _ (fun h9 => by have h8 : 1 = 4 ∨ 1 = 4 + 1 ∨ 1 = 0 := h9; omega) hb
          have hF := hF.tr (hF9.mono (fun t h9 => by have h8 : t = 4 ∨ t = 4 + 1 ∨ t = 0 := h9; show t = 4 ∨ t = 5 ∨ t = 0; omega))
          refine v_iinc C dX6_feed_39 rfl bsl_3_2 (by decide) rfl ?_
          refine v_goto C (tgt := 25) dX6_feed_42 (by decide) ?_
          refine v_wide (k' := (cN - capT).toNat) (z' := (2 * (cN - capT)).toNat) (by omega) (by omega) ?_
          exact ih w (s9 + -8) (len1 + 1) cN (n9 - 1) _ hb hT hF ⟨by omega, by omega⟩ ⟨by omega, by omega⟩ (by rw [← hp9, hn9, hv9m]; rfl) (hcp.tr (by omega) hcN (by omega)) (by omega)
    refine v_wide (k' := (capT - capT).toNat) (z' := (2 * (capT - capT)).toNat) (by omega) (by omega) ?_
    exact L25 _ w 24 tz capT 4 T hb hT hF ⟨by omega, by omega⟩ ⟨by omega, by omega⟩ rfl (Cap.here (by omega) (by omega)) (Nat.lt_succ_self _)
  · exact v_thrS C hfl hR0 htab rfl (List.mem_of_getElem? (i := 1) rfl) (List.mem_of_getElem? (i := 2) rfl) (List.mem_of_getElem? (i := 9) rfl) (fun w9 h => List.mem_cons_of_mem _ (List.mem_append_right _ (h))) dX6_feed_12 dX6_feed_15 dX6_feed_16 dX6_feed_18 dX6_feed_21 (Nat.le_of_ble_eq_true rfl) (Nat.le_of_ble_eq_true rfl) (by dsimp only; omega) (by dsimp only; omega) (by omega) (by omega) (hPX _ _ ⟨rfl, hw0.symm, by omega⟩)
