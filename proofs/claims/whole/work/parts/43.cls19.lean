
theorem pch_r {T : Int → Int} {N nw : Int} {A1 : Int → Int} : ∀ (k : Nat) (n a p : Int) (S : Int → Int), (N - a).toNat ≤ k → 0 ≤ a → a ≤ N → -2 ≤ (pch T N nw A1 n a p S).1 ∧ (pch T N nw A1 n a p S).1 ≤ N := by
  intro k
  induction k with
  | zero =>
    intro n a p S hk h0 hN
    have hb := rcF_bd (T := T) (N := N) (a := a) h0 hN
    by_cases hn : n ≤ 0
    · rw [pch_0 hn]; exact ⟨by show (-2 : Int) ≤ -1; omega, by show (-1 : Int) ≤ N; omega⟩
    · by_cases c1 : rcF T N a = -1
      · have := rc_ok h0 hN c1; omega
      · rw [pch_f1 hn c1]; omega
  | succ k ih =>
    intro n a p S hk h0 hN
    have hb := rcF_bd (T := T) (N := N) (a := a) h0 hN
    by_cases hn : n ≤ 0
    · rw [pch_0 hn]; exact ⟨by show (-2 : Int) ≤ -1; omega, by show (-1 : Int) ≤ N; omega⟩
    · by_cases c1 : rcF T N a = -1
      · have r1 := rc_ok h0 hN c1
        have hb2 := rcF_bd (T := T) (N := N) (a := rcN T N a) (by omega) r1.2.1
        obtain ⟨q, hq⟩ : ∃ q : Int, q = (if p < 0 then 0 else p / 64) := ⟨_, rfl⟩
        by_cases c2 : rcV T N a + q < nw
        · by_cases c3 : rcF T N (rcN T N a) = -1
          · have r2 := rc_ok (T := T) (N := N) (a := rcN T N a) (by omega) r1.2.1 c3
            by_cases c4 : rcV T N (rcN T N a) / 16 < A1 (rcV T N a + q) ∧ rcV T N (rcN T N a) % 16 < 9 ∧ p < 64 * (rcV T N a + q) + rcV T N (rcN T N a) / 16 ∧ S (64 * (rcV T N a + q) + rcV T N (rcN T N a) / 16) ≠ rcV T N (rcN T N a) % 16
            · rw [pch_go (S := S) h0 hN hn c1 rfl hq rfl rfl rfl c2 c3 c4]
              exact ih _ _ _ _ (by omega) (by omega) r2.2.1
            · rw [pch_f4 (S := S) hn c1 rfl hq rfl rfl c2 c3 c4]; omega
          · rw [pch_f3 (S := S) hn c1 rfl hq rfl c2 c3]; omega
        · rw [pch_f2 (A1 := A1) (S := S) hn c1 rfl hq (by omega)]; omega
      · rw [pch_f1 hn c1]; omega
theorem pmT_r {T : Int → Int} {N nw : Int} {A1 : Int → Int} {a t s : Int} {S : Int → Int} (h0 : 0 ≤ a) (hN : a ≤ N) : -2 ≤ (pmT T N nw A1 a t s S).1 ∧ (pmT T N nw A1 a t s S).1 ≤ N := by
  have hb := rcF_bd (T := T) (N := N) (a := a) h0 hN
  unfold pmT
  by_cases c1 : rcF T N a = -1
  · rw [if_neg (fun g => g c1)]
    have r1 := rc_ok h0 hN c1
    by_cases c2 : rcV T N a = 0
    · rw [if_pos c2]; exact ⟨by show -2 ≤ a; omega, hN⟩
    · rw [if_neg c2]; exact pch_r _ _ _ _ _ (Nat.le_refl _) (by omega) r1.2.1
  · rw [if_pos c1]; exact ⟨by show -2 ≤ rcF T N a; omega, hb.2⟩
theorem pmo_r {T : Int → Int} {N nw : Int} {A1 : Int → Int} {a t s : Int} {S : Int → Int} (h0 : 0 ≤ a) (hN : a ≤ N) : -2 ≤ (pmo T N nw A1 a t s S).1 ∧ (pmo T N nw A1 a t s S).1 ≤ N := by
  have hb := rcF_bd (T := T) (N := N) (a := a) h0 hN
  unfold pmo
  by_cases c1 : rcF T N a = -1
  · rw [if_neg (fun g => g c1)]
    have r1 := rc_ok h0 hN c1
    have hb2 := rcF_bd (T := T) (N := N) (a := rcN T N a) (by omega) r1.2.1
    by_cases c2 : rcV T N a / 2 = 0 ∨ 1152921504606846976 ≤ (if rcV T N a % 2 = 1 then t else t + rcV T N a / 2) ∨ 1152921504606846976 ≤ (if rcV T N a % 2 = 1 then s + rcV T N a / 2 else s)
    · rw [if_pos c2]; exact ⟨by show -2 ≤ a; omega, hN⟩
    · rw [if_neg c2]
      by_cases c3 : rcV T N a % 2 = 1
      · rw [if_pos c3]; exact pmT_r (by omega) r1.2.1
      · rw [if_neg c3]
        by_cases c4 : rcF T N (rcN T N a) = -1
        · rw [if_neg (fun g => g c4)]
          have r2 := rc_ok (T := T) (N := N) (a := rcN T N a) (by omega) r1.2.1 c4
          by_cases c5 : 1152921504606846976 ≤ rcV T N (rcN T N a)
          · rw [if_pos c5]; exact ⟨by show -2 ≤ rcN T N a; omega, r1.2.1⟩
          · rw [if_neg c5]; exact pmT_r (by omega) r2.2.1
        · rw [if_pos c4]; exact ⟨by show -2 ≤ rcF T N (rcN T N a); omega, hb2.2⟩
  · rw [if_pos c1]; exact ⟨by show -2 ≤ rcF T N a; omega, hb.2⟩
theorem pro_r {T : Int → Int} {N nw : Int} {A1 : Int → Int} : ∀ (k : Nat) (a t s : Int) (S : Int → Int), (N - a).toNat ≤ k → 0 ≤ a → a ≤ N → -2 ≤ (pro T N nw A1 a t s S).1 ∧ (pro T N nw A1 a t s S).1 ≤ N := by
  intro k
  induction k with
  | zero =>
    intro a t s S hk h0 hN
    rw [pro_0 (by omega)]
    exact ⟨by show (-2 : Int) ≤ -1; omega, by show (-1 : Int) ≤ N; omega⟩
  | succ k ih =>
    intro a t s S hk h0 hN
    by_cases c0 : N ≤ a
    · rw [pro_0 c0]; exact ⟨by show (-2 : Int) ≤ -1; omega, by show (-1 : Int) ≤ N; omega⟩
    · have hr := pmo_r (T := T) (nw := nw) (A1 := A1) (t := t) (s := s) (S := S) h0 hN
      by_cases c1 : (pmo T N nw A1 a t s S).1 = -1
      · by_cases c2 : a < (pmo T N nw A1 a t s S).2.1
        · rw [pro_go c0 c1 c2 rfl]
          by_cases c3 : (pmo T N nw A1 a t s S).2.1 ≤ N
          · exact ih _ _ _ _ (by omega) (by omega) c3
          · show -2 ≤ (pro T N nw A1 (pmo T N nw A1 a t s S).2.1 _ _ _).1 ∧ (pro T N nw A1 (pmo T N nw A1 a t s S).2.1 _ _ _).1 ≤ N
            rw [pro_0 (by omega)]
            exact ⟨by show (-2 : Int) ≤ -1; omega, by show (-1 : Int) ≤ N; omega⟩
        · rw [pro, dif_neg c0, if_neg (fun g => g c1), dif_neg c2]
          exact ⟨Int.le_refl _, by show (-2 : Int) ≤ N; omega⟩
      · rw [pro_f c0 c1]; exact hr
theorem pro_r32 {T : Int → Int} {N nw : Int} {A1 : Int → Int} (_ : ∀ i, 0 ≤ i → i < nw → 1 ≤ A1 i ∧ A1 i ≤ 64) (h0 : 0 ≤ N) (h1 : N ≤ 2048) : R32 (pro T N nw A1 0 0 (-1) (fun _ => 0)).1 := by
  have := pro_r (T := T) (N := N) (nw := nw) (A1 := A1) (N - 0).toNat 0 0 (-1) (fun _ => 0) (Nat.le_refl _) (by omega) h0
  exact ⟨by omega, by omega⟩
set_option maxRecDepth 100000 in
set_option maxHeartbeats 400000 in
theorem c_X6_open_N {G : GG} {l : Launch} {w : Wd} {r : Nat} {wr tp ra rb : Nat} {TA : Nat} {capA vcA : Int} {ML : ML3} {MA : Int → Nat} {t9 s9 : Int} {mc9 ms9 : Nat} (hfl : l.stackTraces = false) (hb : w r = some (1, .inr (9, [.ref wr, .ref tp, .ref ra, .ref rb, .null, .null]))) (hA : RowM G w TA ra capA vcA ML MA) (hTA : 6 < TA ∧ TA < 90) (ht9 : R64 t9) (hs9 : R64 s9) (hcs : 3 ≤ mc9 ∧ 13 ≤ ms9) : MX G l yX6_open wsX6_open 16 640 (mc9) (ms9) [.ref r, .long (lI t9), .long (lI s9)] w (pV (fun (w' : Wd) => ((0 ≤ t9 ∧ t9 < 1152921504606846976 ∧ 0 ≤ s9 ∧ s9 < 1152921504606846976)) ∧ ∃ (a9 : Nat) (MA2 : Int → Nat), w a9 = none ∧ w' r = some (1, .inr (9, [.ref wr, .ref tp, .ref ra, .ref rb, .ref a9, .ref a9])) ∧ MomAt G w' a9 t9 s9 (-1) ([] : ML2).length (pwL []) (vlL []) (fun j => sall (fun _ => 0) ML (pwL [] j)) ∧ (∀ i : Int, 0 ≤ i → i < ML.length → MA2 i ≠ a9) ∧ RowM G w' TA ra capA vcA ML MA2 ∧ Fr (fun t => t = 1 ∨ t = 0 ∨ (TA ≤ t ∧ t ≤ TA + 5) ∨ 100 ≤ t) w w')) (fun (E : String) (w9 : Wd) => E = "java/lang/IllegalArgumentException" ∧ ¬ (((0 ≤ t9 ∧ t9 < 1152921504606846976 ∧ 0 ≤ s9 ∧ s9 < 1152921504606846976))) ∧ (w9 = w ∨ (∃ a9 : Nat, w a9 = none ∧ Fr (fun t => t = 0 ∨ (100 + 4 * a9 ≤ t ∧ t < 104 + 4 * a9)) w w9))) := by
  refine MX.of (cc := cX6_open) (nL := 6) (ret := none) (ll := [some (.ref r), some (.long (lI t9)), none, some (.long (lI s9)), none, none]) (by decide) rfl (Nat.le_of_ble_eq_true rfl) rfl ?_
  intro p e s m args below meth c C htab hR0
  have hts := C.2.2.2.2.1
  have g33 : GetF G s m args 33 9 4 := getF_of C 9 4 (T := TX6) (N := 6) (Cn := RX6) (ref := "TraceBook") rfl (by decide) (fun _ h => List.mem_cons_of_mem _ (List.mem_append_left _ (List.mem_append_left _ (List.mem_append_left _ (List.mem_append_left _ (List.mem_append_left _ (List.mem_append_left _ (List.mem_append_right _ (h))))))))) (List.mem_of_getElem? (i := 9) rfl) (fun _ h => h)
  have p33 : PutF G s m args 33 9 4 (.object "TraceBook$Moment") := putF_of C 9 4 tyX6 tyX6_ok nmX6 (T := TX6) (N := 6) (Cn := RX6) (ref := "TraceBook") rfl (by decide) (fun _ h => List.mem_cons_of_mem _ (List.mem_append_left _ (List.mem_append_left _ (List.mem_append_left _ (List.mem_append_left _ (List.mem_append_left _ (List.mem_append_left _ (List.mem_append_right _ (h))))))))) (List.mem_of_getElem? (i := 9) rfl) (fun _ h => h) rfl (by decide +kernel)
  have p37 : PutF G s m args 37 9 5 (.object "TraceBook$Moment") := putF_of C 9 5 tyX6 tyX6_ok nmX6 (T := TX6) (N := 6) (Cn := RX6) (ref := "TraceBook") rfl (by decide) (fun _ h => List.mem_cons_of_mem _ (List.mem_append_left _ (List.mem_append_left _ (List.mem_append_left _ (List.mem_append_left _ (List.mem_append_left _ (List.mem_append_left _ (List.mem_append_right _ (h))))))))) (List.mem_of_getElem? (i := 10) rfl) (fun _ h => h) rfl (by decide +kernel)
  refine poVX (P := fun PO PX => V G p l e _ s m args below meth c (MXQ G below args s _ _ (pV PO) PX) w 0 0 0 _ []) (fun PO PX hPO hPX => ?_)
  obtain ⟨w0, hw0⟩ : ∃ z, z = w := ⟨_, rfl⟩
  rw [← hw0] at hPO hPX
  have hF : Fr (fun t => t = 0) w0 w := by rw [hw0]; exact Fr.rf
  refine v_lload_n C dX6_open_0 rfl ?_
  refine v_lconst C (v := 0) dX6_open_1 rfl ?_
  refine v_lcmp_lt C (⟨by omega, by omega⟩) (⟨by omega, by omega⟩) (tgt := 28) dX6_open_2 dX6_open_3 (by decide) (fun c_2 => ?_) (fun c_2 => ?_)
  · exact v_thrA C hfl hR0 htab rfl (List.mem_of_getElem? (i := 1) rfl) (List.mem_of_getElem? (i := 2) rfl) (List.mem_of_getElem? (i := 15) rfl) (fun w9 h => List.mem_cons_of_mem _ (List.mem_append_left _ (List.mem_append_right _ (h)))) dX6_open_28 dX6_open_31 dX6_open_32 dX6_open_34 dX6_open_37 (Nat.le_of_ble_eq_true rfl) (Nat.le_of_ble_eq_true rfl) (by dsimp only; omega) (by dsimp only; omega) (by omega) (by omega) (hPX _ _ ⟨rfl, fun g => by omega, Or.inl hw0.symm⟩)
  · refine v_lload_n C dX6_open_6 rfl ?_
    refine v_ldc2 C (v := 1152921504606846975) (List.mem_of_getElem? (i := 5) rfl) (by decide +kernel) dX6_open_7 ?_
    refine v_lcmp_gt C (⟨by omega, by omega⟩) (⟨by omega, by omega⟩) (tgt := 28) dX6_open_10 dX6_open_11 (by decide) (fun c_10 => ?_) (fun c_10 => ?_)
    · exact v_thrA C hfl hR0 htab rfl (List.mem_of_getElem? (i := 1) rfl) (List.mem_of_getElem? (i := 2) rfl) (List.mem_of_getElem? (i := 15) rfl) (fun w9 h => List.mem_cons_of_mem _ (List.mem_append_left _ (List.mem_append_right _ (h)))) dX6_open_28 dX6_open_31 dX6_open_32 dX6_open_34 dX6_open_37 (Nat.le_of_ble_eq_true rfl) (Nat.le_of_ble_eq_true rfl) (by dsimp only; omega) (by dsimp only; omega) (by omega) (by omega) (hPX _ _ ⟨rfl, fun g => by omega, Or.inl hw0.symm⟩)
    · refine v_lload_n C dX6_open_14 rfl ?_
      refine v_lconst C (v := 0) dX6_open_15 rfl ?_
      refine v_lcmp_lt C (⟨by omega, by omega⟩) (⟨by omega, by omega⟩) (tgt := 28) dX6_open_16 dX6_open_17 (by decide) (fun c_16 => ?_) (fun c_16 => ?_)
      · exact v_thrA C hfl hR0 htab rfl (List.mem_of_getElem? (i := 1) rfl) (List.mem_of_getElem? (i := 2) rfl) (List.mem_of_getElem? (i := 15) rfl) (fun w9 h => List.mem_cons_of_mem _ (List.mem_append_left _ (List.mem_append_right _ (h)))) dX6_open_28 dX6_open_31 dX6_open_32 dX6_open_34 dX6_open_37 (Nat.le_of_ble_eq_true rfl) (Nat.le_of_ble_eq_true rfl) (by dsimp only; omega) (by dsimp only; omega) (by omega) (by omega) (hPX _ _ ⟨rfl, fun g => by omega, Or.inl hw0.symm⟩)
      · refine v_lload_n C dX6_open_20 rfl ?_
        refine v_ldc2 C (v := 1152921504606846975) (List.mem_of_getElem? (i := 5) rfl) (by decide +kernel) dX6_open_21 ?_
        refine v_lcmp_le C (⟨by omega, by omega⟩) (⟨by omega, by omega⟩) (tgt := 38) dX6_open_24 dX6_open_25 (by decide) (fun c_24 => ?_) (fun c_24 => ?_)
        · have hA38 := hA
          have hn38 : ∀ b, w b = none → w0 b = none := fun b h => by rw [hw0]; exact h
          refine v_new C (ci := 5) (T := TX2) (N := 4) (Cn := RX2) (fs := [.long (lI 0), .long (lI 0), .null, .int (iI 0)]) (0) tyX2 tyX2_ok rfl (fun _ h => List.mem_cons_of_mem _ (List.mem_append_left _ (List.mem_append_left _ (List.mem_append_left _ (List.mem_append_left _ (List.mem_append_left _ (List.mem_append_left _ (List.mem_append_left _ (List.mem_append_right _ (h)))))))))) (List.mem_of_getElem? (i := 6) rfl) (List.mem_of_getElem? (i := 7) rfl) (List.mem_of_getElem? (i := 8) rfl) (fun j hj => by rcases (by omega : j = 0 ∨ j = 1 ∨ j = 2 ∨ j = 3) with rfl | rfl | rfl | rfl <;> rfl) (by dsimp only; omega) (by dsimp only; omega) dX6_open_38 (fun a38 ha38 => ?_)
          refine v_fresh ha38 (fun w h38 hF9 hE9 => ?_)
          have hA := hA.fr hF9 (fun t x y h9 => h9) (fun i x y t z u h9 => h9)
          have hb := hF9 _ _ _ (fun h9 => h9) hb
          have hF := hF.tr (hF9.mono (fun t h9 => h9.elim))
          have ha38 := hn38 a38 ha38
          have hMn : ∀ i : Int, 0 ≤ i → i < ML.length → MA i ≠ a38 := fun i x y q => by
            obtain ⟨vs, e⟩ := hA38.mem x y
            rw [q, ← hw0, ha38] at e
            cases e
          refine v_retag h38 (100 + 4 * a38) (fun w h38 hF9 hE9 => ?_)
          have hA := hA.fr hF9 (fun t x y h9 => by have h8 : t = 0 := h9; omega) (fun i x y t z u h9 => by have h8 : t = 0 := h9; omega)
          have hb := hF9 _ _ _ (fun h9 => by have h8 : 1 = 0 := h9; omega) hb
          have hF := hF.tr (hF9.mono (fun t h9 => by have h8 : t = 0 := h9; show t = 0; omega))
          have hF : Fr (fun t => t = 0 ∨ (100 + 4 * a38 ≤ t ∧ t < 104 + 4 * a38)) w0 w := hF.mono (fun t h9 => Or.inl h9)
          refine v_dup C rfl dX6_open_41 ?_
          refine v_lload_n C dX6_open_42 rfl ?_
          refine v_lload_n C dX6_open_43 rfl ?_
          refine v_callI C (ret2 := none) (b := _) (t := 0) (ci := 0) (fs := []) (q := (RX7, TX7, 33)) (As := [_, _]) (rest := [_]) (c_X2_init (pw := pwL []) (vl := vlL []) (bf := fun j => sall (fun _ => 0) ML (pwL [] j)) h38) (cwI 2 hts gX6_open_X2_init rfl rfl rfl (hts _ (List.mem_of_getElem? (i := 8) rfl)) (hts _ (List.mem_of_getElem? (i := 11) rfl)) (hts _ (List.mem_of_getElem? (i := 12) rfl)) rfl (by decide +kernel) ⟨Nat.le_of_ble_eq_true rfl, Nat.le_of_ble_eq_true rfl⟩) rfl rfl (Nat.le_of_ble_eq_true rfl) dX6_open_44 (by dsimp only; omega) (by dsimp only; omega) (fun w hp => ?_)
          obtain ⟨hMo9, hF9⟩ := hp
          obtain ⟨lr, LL, hm1, hmL, hmC⟩ := hMo9
          have hA := hA.fr hF9 (fun t x y h9 => by have h8 : t = 100 + 4 * a38 ∨ t = 101 + 4 * a38 := h9; omega) (fun i x y t z u h9 => by have h8 : t = 100 + 4 * a38 ∨ t = 101 + 4 * a38 := h9; have := hMn i x y; omega)
          have hb := hF9 _ _ _ (fun h9 => by have h8 : 1 = 100 + 4 * a38 ∨ 1 = 101 + 4 * a38 := h9; omega) hb
          have hF := hF.tr (hF9.mono (fun t h9 => by have h8 : t = 100 + 4 * a38 ∨ t = 101 + 4 * a38 := h9; show t = 0 ∨ (100 + 4 * a38 ≤ t ∧ t < 104 + 4 * a38); omega))
          refine v_astore C dX6_open_47 bsl_6_5 (by decide) rfl ?_
          refine v_aload_n C dX6_open_49 rfl ?_
          refine v_getf C g33 hb rfl dX6_open_50 ?_
          refine v_ifnullN C (tgt := 88) dX6_open_53 (by decide) ?_
          have hF : Fr (fun t => t = 1 ∨ t = 0 ∨ (TA ≤ t ∧ t ≤ TA + 5) ∨ 100 ≤ t) w0 w := hF.mono (fun t h9 => by omega)
          refine v_aload_n C dX6_open_88 rfl ?_
          refine v_callVi C (q := (RX6, TX6, 6)) (As := []) (rest := []) (c_close_N (mc9 := 0) (ms9 := 0) hb) (cwV 0 hts gX6_open_X6_closeOpenMoment rfl rfl rfl (by decide +kernel) ⟨Nat.le_of_ble_eq_true rfl, Nat.le_of_ble_eq_true rfl⟩) (hb) rfl rfl rfl (Nat.le_of_ble_eq_true rfl) dX6_open_89 (by dsimp only; omega) (by dsimp only; omega) (fun x_89 w hp => ?_)
          obtain ⟨hx89, hb, hF9⟩ := hp
          have hA := hA.fr hF9 (fun t x y h9 => by have h8 : t = 1 := h9; omega) (fun i x y t z u h9 => by have h8 : t = 1 := h9; omega)
          have hm1 := hF9 _ _ _ (fun h9 => by have h8 : 100 + 4 * a38 = 1 := h9; omega) hm1
          have hmL := hmL.fr hF9 (fun h9 => by have h8 : 101 + 4 * a38 = 1 := h9; omega) (fun h9 => by have h8 : 101 + 4 * a38 + 1 = 1 := h9; omega)
          have hmC := hmC.fr hF9 (fun h9 => by have h8 : 103 + 4 * a38 = 1 := h9; omega)
          have hF := hF.tr (hF9.mono (fun t h9 => by have h8 : t = 1 := h9; show t = 1 ∨ t = 0 ∨ (TA ≤ t ∧ t ≤ TA + 5) ∨ 100 ≤ t; omega))
          refine v_if_ne C (⟨by omega, by omega⟩) (tgt := 105) dX6_open_92 (by decide) (fun c_92 => ?_) (fun c_92 => ?_)
          · refine v_aload_n C dX6_open_105 rfl ?_
            refine v_aload C dX6_open_106 rfl ?_
            refine v_putf C p33 hb rfl rfl (Nat.le_of_ble_eq_true rfl) dX6_open_108 ?_
            refine v_upd hb (fun w hb hF9 hE9 => ?_)
            have hA := hA.fr hF9 (fun t x y h9 => by have h8 : t = 1 := h9; omega) (fun i x y t z u h9 => by have h8 : t = 1 := h9; omega)
            have hm1 := hF9 _ _ _ (fun h9 => by have h8 : 100 + 4 * a38 = 1 := h9; omega) hm1
            have hmL := hmL.fr hF9 (fun h9 => by have h8 : 101 + 4 * a38 = 1 := h9; omega) (fun h9 => by have h8 : 101 + 4 * a38 + 1 = 1 := h9; omega)
            have hmC := hmC.fr hF9 (fun h9 => by have h8 : 103 + 4 * a38 = 1 := h9; omega)
            have hF := hF.tr (hF9.mono (fun t h9 => by have h8 : t = 1 := h9; show t = 1 ∨ t = 0 ∨ (TA ≤ t ∧ t ≤ TA + 5) ∨ 100 ≤ t; omega))
            refine v_aload_n C dX6_open_111 rfl ?_
            refine v_aload C dX6_open_112 rfl ?_
            refine v_putf C p37 hb rfl rfl (Nat.le_of_ble_eq_true rfl) dX6_open_114 ?_
            refine v_upd hb (fun w hb hF9 hE9 => ?_)
            have hA := hA.fr hF9 (fun t x y h9 => by have h8 : t = 1 := h9; omega) (fun i x y t z u h9 => by have h8 : t = 1 := h9; omega)
            have hm1 := hF9 _ _ _ (fun h9 => by have h8 : 100 + 4 * a38 = 1 := h9; omega) hm1
            have hmL := hmL.fr hF9 (fun h9 => by have h8 : 101 + 4 * a38 = 1 := h9; omega) (fun h9 => by have h8 : 101 + 4 * a38 + 1 = 1 := h9; omega)
            have hmC := hmC.fr hF9 (fun h9 => by have h8 : 103 + 4 * a38 = 1 := h9; omega)
            have hF := hF.tr (hF9.mono (fun t h9 => by have h8 : t = 1 := h9; show t = 1 ∨ t = 0 ∨ (TA ≤ t ∧ t ≤ TA + 5) ∨ 100 ≤ t; omega))
            refine v_x ?_
            exact v_vret C rfl dX6_open_117 (by omega) (by omega) (hPO _ ⟨⟨by omega, by omega, by omega, by omega⟩, a38, MA, ha38, hb, ⟨lr, LL, hm1, hmL, hmC⟩, hMn, hA, hF⟩)
          · exact absurd c_92 (by omega)
        · exact v_thrA C hfl hR0 htab rfl (List.mem_of_getElem? (i := 1) rfl) (List.mem_of_getElem? (i := 2) rfl) (List.mem_of_getElem? (i := 15) rfl) (fun w9 h => List.mem_cons_of_mem _ (List.mem_append_left _ (List.mem_append_right _ (h)))) dX6_open_28 dX6_open_31 dX6_open_32 dX6_open_34 dX6_open_37 (Nat.le_of_ble_eq_true rfl) (Nat.le_of_ble_eq_true rfl) (by dsimp only; omega) (by dsimp only; omega) (by omega) (by omega) (hPX _ _ ⟨rfl, fun g => by omega, Or.inl hw0.symm⟩)
set_option maxRecDepth 100000 in
set_option maxHeartbeats 400000 in
theorem c_X6_open_S {G : GG} {l : Launch} {w : Wd} {r : Nat} {wr tp ra rb : Nat} {op : Option Nat} {TA a : Nat} {capA vcA capA2 nw ti sp : Int} {A1 : Int → Int} {ML : ML3} {OL : ML2} {MA : Int → Nat} {t9 s9 : Int} {q3 q4 : Value} {mc9 ms9 : Nat} (hfl : l.stackTraces = false) (hb : w r = some (1, .inr (9, [.ref wr, .ref tp, .ref ra, .ref rb, .ref a, va_rf op]))) (hla : w a = some (100 + 4 * a, .inr (5, [.long (lI ti), .long (lI sp), q3, q4]))) (hOp : OpenAt G w ML MA op a ti sp OL) (hA : RowM G w TA ra capA vcA ML MA) (hok : okL nw A1 0 (-1) (fun _ => 0) ML) (hnw : 0 ≤ nw ∧ nw ≤ 200) (hTA : 6 < TA ∧ TA < 90) (ht : 0 ≤ ti ∧ ti < 1152921504606846976 ∧ 0 ≤ sp ∧ sp < 1152921504606846976) (hlt : OL ≠ [] → lasT 0 ML < ti ∨ (lasT 0 ML = ti ∧ lasS (-1) ML < sp)) (hL : okC nw A1 (-1) (sall (fun _ => 0) ML) OL) (hc : Cap capA ((encAll 0 (-1) (fun _ => 0) (addM ML ti sp OL)).length : Int) capA2) (hc2 : capA2 ≤ 1000000) (hfit : ((encAll 0 (-1) (fun _ => 0) (addM ML ti sp OL)).length : Int) ≤ 60000) (hn : (ML.length : Int) ≤ 100000) (ht9 : R64 t9) (hs9 : R64 s9) (hcs : 3 ≤ mc9 ∧ 13 ≤ ms9 ∧ (((0 ≤ t9 ∧ t9 < 1152921504606846976 ∧ 0 ≤ s9 ∧ s9 < 1152921504606846976) ∧ (ti < t9 ∨ (t9 = ti ∧ sp < s9))) → 3 + ((capA2 - capA).toNat + 1 + (gvc vcA OL - vcA).toNat) ≤ mc9 ∧ 13 + ((2 * (capA2 - capA)).toNat + ((ML.length : Int) + (ML.length : Int) / 2 + 10).toNat + (2 * (gvc vcA OL - vcA)).toNat) ≤ ms9)) : MX G l yX6_open wsX6_open 16 640 (mc9) (ms9) [.ref r, .long (lI t9), .long (lI s9)] w (pV (fun (w' : Wd) => ((0 ≤ t9 ∧ t9 < 1152921504606846976 ∧ 0 ≤ s9 ∧ s9 < 1152921504606846976) ∧ (ti < t9 ∨ (t9 = ti ∧ sp < s9))) ∧ ∃ (a9 : Nat) (MA2 : Int → Nat), w a9 = none ∧ w' r = some (1, .inr (9, [.ref wr, .ref tp, .ref ra, .ref rb, .ref a9, .ref a9])) ∧ MomAt G w' a9 t9 s9 (-1) ([] : ML2).length (pwL []) (vlL []) (fun j => sall (fun _ => 0) (addM ML ti sp OL) (pwL [] j)) ∧ (∀ i : Int, 0 ≤ i → i < (addM ML ti sp OL).length → MA2 i ≠ a9) ∧ RowM G w' TA ra capA2 (gvc vcA OL) (addM ML ti sp OL) MA2 ∧ Fr (fun t => t = 1 ∨ t = 0 ∨ (TA ≤ t ∧ t ≤ TA + 5) ∨ 100 ≤ t) w w')) (fun (E : String) (w9 : Wd) => E = "java/lang/IllegalArgumentException" ∧ ¬ (((0 ≤ t9 ∧ t9 < 1152921504606846976 ∧ 0 ≤ s9 ∧ s9 < 1152921504606846976) ∧ (ti < t9 ∨ (t9 = ti ∧ sp < s9)))) ∧ (w9 = w ∨ (∃ a9 : Nat, w a9 = none ∧ Fr (fun t => t = 0 ∨ (100 + 4 * a9 ≤ t ∧ t < 104 + 4 * a9)) w w9))) := by
  refine MX.of (cc := cX6_open) (nL := 6) (ret := none) (ll := [some (.ref r), some (.long (lI t9)), none, some (.long (lI s9)), none, none]) (by decide) rfl (Nat.le_of_ble_eq_true rfl) rfl ?_
  intro p e s m args below meth c C htab hR0
  have hts := C.2.2.2.2.1
  have g33 : GetF G s m args 33 9 4 := getF_of C 9 4 (T := TX6) (N := 6) (Cn := RX6) (ref := "TraceBook") rfl (by decide) (fun _ h => List.mem_cons_of_mem _ (List.mem_append_left _ (List.mem_append_left _ (List.mem_append_left _ (List.mem_append_left _ (List.mem_append_left _ (List.mem_append_left _ (List.mem_append_right _ (h))))))))) (List.mem_of_getElem? (i := 9) rfl) (fun _ h => h)
  have g83 : GetN G s m args 83 5 0 := getN_of C 5 0 (T := TX2) (N := 4) (Cn := RX2) (ref := "TraceBook$Moment") rfl (by decide) (fun _ h => List.mem_cons_of_mem _ (List.mem_append_left _ (List.mem_append_left _ (List.mem_append_left _ (List.mem_append_left _ (List.mem_append_left _ (List.mem_append_left _ (List.mem_append_left _ (List.mem_append_right _ (h)))))))))) (List.mem_of_getElem? (i := 1) rfl) (fun _ h => h)
  have g87 : GetN G s m args 87 5 1 := getN_of C 5 1 (T := TX2) (N := 4) (Cn := RX2) (ref := "TraceBook$Moment") rfl (by decide) (fun _ h => List.mem_cons_of_mem _ (List.mem_append_left _ (List.mem_append_left _ (List.mem_append_left _ (List.mem_append_left _ (List.mem_append_left _ (List.mem_append_left _ (List.mem_append_left _ (List.mem_append_right _ (h)))))))))) (List.mem_of_getElem? (i := 2) rfl) (fun _ h => h)
  have p33 : PutF G s m args 33 9 4 (.object "TraceBook$Moment") := putF_of C 9 4 tyX6 tyX6_ok nmX6 (T := TX6) (N := 6) (Cn := RX6) (ref := "TraceBook") rfl (by decide) (fun _ h => List.mem_cons_of_mem _ (List.mem_append_left _ (List.mem_append_left _ (List.mem_append_left _ (List.mem_append_left _ (List.mem_append_left _ (List.mem_append_left _ (List.mem_append_right _ (h))))))))) (List.mem_of_getElem? (i := 9) rfl) (fun _ h => h) rfl (by decide +kernel)
  have p37 : PutF G s m args 37 9 5 (.object "TraceBook$Moment") := putF_of C 9 5 tyX6 tyX6_ok nmX6 (T := TX6) (N := 6) (Cn := RX6) (ref := "TraceBook") rfl (by decide) (fun _ h => List.mem_cons_of_mem _ (List.mem_append_left _ (List.mem_append_left _ (List.mem_append_left _ (List.mem_append_left _ (List.mem_append_left _ (List.mem_append_left _ (List.mem_append_right _ (h))))))))) (List.mem_of_getElem? (i := 10) rfl) (fun _ h => h) rfl (by decide +kernel)
  refine poVX (P := fun PO PX => V G p l e _ s m args below meth c (MXQ G below args s _ _ (pV PO) PX) w 0 0 0 _ []) (fun PO PX hPO hPX => ?_)
  obtain ⟨w0, hw0⟩ : ∃ z, z = w := ⟨_, rfl⟩
  rw [← hw0] at hPO hPX
  have hF : Fr (fun t => t = 0) w0 w := by rw [hw0]; exact Fr.rf
  obtain ⟨hcs1, hcs2, hcs3⟩ := hcs
  refine v_lload_n C dX6_open_0 rfl ?_
  refine v_lconst C (v := 0) dX6_open_1 rfl ?_
  refine v_lcmp_lt C (⟨by omega, by omega⟩) (⟨by omega, by omega⟩) (tgt := 28) dX6_open_2 dX6_open_3 (by decide) (fun c_2 => ?_) (fun c_2 => ?_)
  · exact v_thrA C hfl hR0 htab rfl (List.mem_of_getElem? (i := 1) rfl) (List.mem_of_getElem? (i := 2) rfl) (List.mem_of_getElem? (i := 15) rfl) (fun w9 h => List.mem_cons_of_mem _ (List.mem_append_left _ (List.mem_append_right _ (h)))) dX6_open_28 dX6_open_31 dX6_open_32 dX6_open_34 dX6_open_37 (Nat.le_of_ble_eq_true rfl) (Nat.le_of_ble_eq_true rfl) (by dsimp only; omega) (by dsimp only; omega) (by omega) (by omega) (hPX _ _ ⟨rfl, fun g => by omega, Or.inl hw0.symm⟩)
  · refine v_lload_n C dX6_open_6 rfl ?_
    refine v_ldc2 C (v := 1152921504606846975) (List.mem_of_getElem? (i := 5) rfl) (by decide +kernel) dX6_open_7 ?_
    refine v_lcmp_gt C (⟨by omega, by omega⟩) (⟨by omega, by omega⟩) (tgt := 28) dX6_open_10 dX6_open_11 (by decide) (fun c_10 => ?_) (fun c_10 => ?_)
    · exact v_thrA C hfl hR0 htab rfl (List.mem_of_getElem? (i := 1) rfl) (List.mem_of_getElem? (i := 2) rfl) (List.mem_of_getElem? (i := 15) rfl) (fun w9 h => List.mem_cons_of_mem _ (List.mem_append_left _ (List.mem_append_right _ (h)))) dX6_open_28 dX6_open_31 dX6_open_32 dX6_open_34 dX6_open_37 (Nat.le_of_ble_eq_true rfl) (Nat.le_of_ble_eq_true rfl) (by dsimp only; omega) (by dsimp only; omega) (by omega) (by omega) (hPX _ _ ⟨rfl, fun g => by omega, Or.inl hw0.symm⟩)
    · refine v_lload_n C dX6_open_14 rfl ?_
      refine v_lconst C (v := 0) dX6_open_15 rfl ?_
      refine v_lcmp_lt C (⟨by omega, by omega⟩) (⟨by omega, by omega⟩) (tgt := 28) dX6_open_16 dX6_open_17 (by decide) (fun c_16 => ?_) (fun c_16 => ?_)
      · exact v_thrA C hfl hR0 htab rfl (List.mem_of_getElem? (i := 1) rfl) (List.mem_of_getElem? (i := 2) rfl) (List.mem_of_getElem? (i := 15) rfl) (fun w9 h => List.mem_cons_of_mem _ (List.mem_append_left _ (List.mem_append_right _ (h)))) dX6_open_28 dX6_open_31 dX6_open_32 dX6_open_34 dX6_open_37 (Nat.le_of_ble_eq_true rfl) (Nat.le_of_ble_eq_true rfl) (by dsimp only; omega) (by dsimp only; omega) (by omega) (by omega) (hPX _ _ ⟨rfl, fun g => by omega, Or.inl hw0.symm⟩)
      · refine v_lload_n C dX6_open_20 rfl ?_
        refine v_ldc2 C (v := 1152921504606846975) (List.mem_of_getElem? (i := 5) rfl) (by decide +kernel) dX6_open_21 ?_
        refine v_lcmp_le C (⟨by omega, by omega⟩) (⟨by omega, by omega⟩) (tgt := 38) dX6_open_24 dX6_open_25 (by decide) (fun c_24 => ?_) (fun c_24 => ?_)
        · have hA38 := hA
          have hla38 := hla
          have hn38 : ∀ b, w b = none → w0 b = none := fun b h => by rw [hw0]; exact h
          refine v_new C (ci := 5) (T := TX2) (N := 4) (Cn := RX2) (fs := [.long (lI 0), .long (lI 0), .null, .int (iI 0)]) (0) tyX2 tyX2_ok rfl (fun _ h => List.mem_cons_of_mem _ (List.mem_append_left _ (List.mem_append_left _ (List.mem_append_left _ (List.mem_append_left _ (List.mem_append_left _ (List.mem_append_left _ (List.mem_append_left _ (List.mem_append_right _ (h)))))))))) (List.mem_of_getElem? (i := 6) rfl) (List.mem_of_getElem? (i := 7) rfl) (List.mem_of_getElem? (i := 8) rfl) (fun j hj => by rcases (by omega : j = 0 ∨ j = 1 ∨ j = 2 ∨ j = 3) with rfl | rfl | rfl | rfl <;> rfl) (by dsimp only; omega) (by dsimp only; omega) dX6_open_38 (fun a38 ha38 => ?_)
          refine v_fresh ha38 (fun w h38 hF9 hE9 => ?_)
          have hA := hA.fr hF9 (fun t x y h9 => h9) (fun i x y t z u h9 => h9)
          have hb := hF9 _ _ _ (fun h9 => h9) hb
          have hla := hF9 _ _ _ (fun h9 => h9) hla
          have hOp := hOp.fr hF9 (fun h9 => h9) (fun h9 => h9) (fun h9 => h9) (fun h9 => h9)
          have hF := hF.tr (hF9.mono (fun t h9 => h9.elim))
          have ha38 := hn38 a38 ha38
          have hMn : ∀ i : Int, 0 ≤ i → i < ML.length → MA i ≠ a38 := fun i x y q => by
            obtain ⟨vs, e⟩ := hA38.mem x y
            rw [q, ← hw0, ha38] at e
            cases e
          have hane : a ≠ a38 := fun q => by
            rw [q, ← hw0, ha38] at hla38
            cases hla38
          refine v_retag h38 (100 + 4 * a38) (fun w h38 hF9 hE9 => ?_)
          have hA := hA.fr hF9 (fun t x y h9 => by have h8 : t = 0 := h9; omega) (fun i x y t z u h9 => by have h8 : t = 0 := h9; omega)
          have hb := hF9 _ _ _ (fun h9 => by have h8 : 1 = 0 := h9; omega) hb
          have hla := hF9 _ _ _ (fun h9 => by have h8 : 100 + 4 * a = 0 := h9; omega) hla
          have hOp := hOp.fr hF9 (fun h9 => by have h8 : 100 + 4 * a = 0 := h9; omega) (fun h9 => by have h8 : 101 + 4 * a = 0 := h9; omega) (fun h9 => by have h8 : 102 + 4 * a = 0 := h9; omega) (fun h9 => by have h8 : 103 + 4 * a = 0 := h9; omega)
          have hF := hF.tr (hF9.mono (fun t h9 => by have h8 : t = 0 := h9; show t = 0; omega))
          have hF : Fr (fun t => t = 0 ∨ (100 + 4 * a38 ≤ t ∧ t < 104 + 4 * a38)) w0 w := hF.mono (fun t h9 => Or.inl h9)
          refine v_dup C rfl dX6_open_41 ?_
          refine v_lload_n C dX6_open_42 rfl ?_
          refine v_lload_n C dX6_open_43 rfl ?_
          refine v_callI C (ret2 := none) (b := _) (t := 0) (ci := 0) (fs := []) (q := (RX7, TX7, 33)) (As := [_, _]) (rest := [_]) (c_X2_init (pw := pwL []) (vl := vlL []) (bf := fun j => sall (fun _ => 0) ML (pwL [] j)) h38) (cwI 2 hts gX6_open_X2_init rfl rfl rfl (hts _ (List.mem_of_getElem? (i := 8) rfl)) (hts _ (List.mem_of_getElem? (i := 11) rfl)) (hts _ (List.mem_of_getElem? (i := 12) rfl)) rfl (by decide +kernel) ⟨Nat.le_of_ble_eq_true rfl, Nat.le_of_ble_eq_true rfl⟩) rfl rfl (Nat.le_of_ble_eq_true rfl) dX6_open_44 (by dsimp only; omega) (by dsimp only; omega) (fun w hp => ?_)
          obtain ⟨hMo9, hF9⟩ := hp
          obtain ⟨lr, LL, hm1, hmL, hmC⟩ := hMo9
          have hA := hA.fr hF9 (fun t x y h9 => by have h8 : t = 100 + 4 * a38 ∨ t = 101 + 4 * a38 := h9; omega) (fun i x y t z u h9 => by have h8 : t = 100 + 4 * a38 ∨ t = 101 + 4 * a38 := h9; have := hMn i x y; omega)
          have hb := hF9 _ _ _ (fun h9 => by have h8 : 1 = 100 + 4 * a38 ∨ 1 = 101 + 4 * a38 := h9; omega) hb
          have hla := hF9 _ _ _ (fun h9 => by have h8 : 100 + 4 * a = 100 + 4 * a38 ∨ 100 + 4 * a = 101 + 4 * a38 := h9; omega) hla
          have hOp := hOp.fr hF9 (fun h9 => by have h8 : 100 + 4 * a = 100 + 4 * a38 ∨ 100 + 4 * a = 101 + 4 * a38 := h9; omega) (fun h9 => by have h8 : 101 + 4 * a = 100 + 4 * a38 ∨ 101 + 4 * a = 101 + 4 * a38 := h9; omega) (fun h9 => by have h8 : 102 + 4 * a = 100 + 4 * a38 ∨ 102 + 4 * a = 101 + 4 * a38 := h9; omega) (fun h9 => by have h8 : 103 + 4 * a = 100 + 4 * a38 ∨ 103 + 4 * a = 101 + 4 * a38 := h9; omega)
          have hF := hF.tr (hF9.mono (fun t h9 => by have h8 : t = 100 + 4 * a38 ∨ t = 101 + 4 * a38 := h9; show t = 0 ∨ (100 + 4 * a38 ≤ t ∧ t < 104 + 4 * a38); omega))
          refine v_astore C dX6_open_47 bsl_6_5 (by decide) rfl ?_
          refine v_aload_n C dX6_open_49 rfl ?_
          refine v_getf C g33 hb rfl dX6_open_50 ?_
          refine v_ifnull C dX6_open_53 ?_
          refine v_aload C dX6_open_56 rfl ?_
          refine v_aload_n C dX6_open_58 rfl ?_
          refine v_getf C g33 hb rfl dX6_open_59 ?_
          refine v_getN C g83 hla rfl dX6_open_62 ?_
          refine v_aload_n C dX6_open_65 rfl ?_
          refine v_getf C g33 hb rfl dX6_open_66 ?_
          refine v_getN C g87 hla rfl dX6_open_69 ?_
          refine v_callVi C (q := (RX2, TX2, 4)) (As := [_, _]) (rest := []) (c_X2_isLaterThan hm1 ⟨ht9, hs9⟩ ⟨⟨by omega, by omega⟩, ⟨by omega, by omega⟩⟩) (cwV 2 hts gX6_open_X2_isLaterThan rfl rfl rfl (by decide +kernel) ⟨Nat.le_of_ble_eq_true rfl, Nat.le_of_ble_eq_true rfl⟩) (hm1) rfl rfl rfl (Nat.le_of_ble_eq_true rfl) dX6_open_72 (by dsimp only; omega) (by dsimp only; omega) (fun x_72 w hp => ?_)
          obtain ⟨hx_72, rfl⟩ := hp
          refine v_if_ne C (hx_72.r32) (tgt := 88) dX6_open_75 (by decide) (fun c_75 => ?_) (fun c_75 => ?_)
          · have hF : Fr (fun t => t = 1 ∨ t = 0 ∨ (TA ≤ t ∧ t ≤ TA + 5) ∨ 100 ≤ t) w0 w := hF.mono (fun t h9 => by omega)
            refine v_aload_n C dX6_open_88 rfl ?_
            have hcs4 := hcs3 ⟨⟨by omega, by omega, by omega, by omega⟩, by have := hx_72.nz c_75; omega⟩
            refine v_callVi C (q := (RX6, TX6, 6)) (As := []) (rest := []) (c_closeOpen hb hOp hA hok hnw hTA ht hlt hL hc hc2 hfit hn (fun _ => ⟨_, _, hla⟩)) (cwV 0 hts gX6_open_X6_closeOpenMoment rfl rfl rfl (by decide +kernel) ⟨Nat.le_of_ble_eq_true rfl, Nat.le_of_ble_eq_true rfl⟩) (hb) rfl rfl rfl (Nat.le_of_ble_eq_true rfl) dX6_open_89 (by dsimp only; omega) (by dsimp only; omega) (fun x_89 w hp => ?_)
            obtain ⟨hx89, MA2, hb, hA, hla2, hdis, hF9⟩ := hp
            have hm1 := hF9 _ _ _ (fun h9 => by have h8 : 100 + 4 * a38 = 1 ∨ (TA ≤ 100 + 4 * a38 ∧ 100 + 4 * a38 ≤ TA + 5) ∨ 100 + 4 * a38 = 0 ∨ 100 + 4 * a38 = 100 + 4 * a := h9; omega) hm1
            have hmL := hmL.fr hF9 (fun h9 => by have h8 : 101 + 4 * a38 = 1 ∨ (TA ≤ 101 + 4 * a38 ∧ 101 + 4 * a38 ≤ TA + 5) ∨ 101 + 4 * a38 = 0 ∨ 101 + 4 * a38 = 100 + 4 * a := h9; omega) (fun h9 => by have h8 : 101 + 4 * a38 + 1 = 1 ∨ (TA ≤ 101 + 4 * a38 + 1 ∧ 101 + 4 * a38 + 1 ≤ TA + 5) ∨ 101 + 4 * a38 + 1 = 0 ∨ 101 + 4 * a38 + 1 = 100 + 4 * a := h9; omega)
            have hmC := hmC.fr hF9 (fun h9 => by have h8 : 103 + 4 * a38 = 1 ∨ (TA ≤ 103 + 4 * a38 ∧ 103 + 4 * a38 ≤ TA + 5) ∨ 103 + 4 * a38 = 0 ∨ 103 + 4 * a38 = 100 + 4 * a := h9; omega)
            have hF := hF.tr (hF9.mono (fun t h9 => by have h8 : t = 1 ∨ (TA ≤ t ∧ t ≤ TA + 5) ∨ t = 0 ∨ t = 100 + 4 * a := h9; show t = 1 ∨ t = 0 ∨ (TA ≤ t ∧ t ≤ TA + 5) ∨ 100 ≤ t; omega))
            refine v_if_ne C (⟨by omega, by omega⟩) (tgt := 105) dX6_open_92 (by decide) (fun c_92 => ?_) (fun c_92 => ?_)
            · refine v_aload_n C dX6_open_105 rfl ?_
              refine v_aload C dX6_open_106 rfl ?_
              refine v_putf C p33 hb rfl rfl (Nat.le_of_ble_eq_true rfl) dX6_open_108 ?_
              refine v_upd hb (fun w hb hF9 hE9 => ?_)
              have hA := hA.fr hF9 (fun t x y h9 => by have h8 : t = 1 := h9; omega) (fun i x y t z u h9 => by have h8 : t = 1 := h9; omega)
              have hm1 := hF9 _ _ _ (fun h9 => by have h8 : 100 + 4 * a38 = 1 := h9; omega) hm1
              have hmL := hmL.fr hF9 (fun h9 => by have h8 : 101 + 4 * a38 = 1 := h9; omega) (fun h9 => by have h8 : 101 + 4 * a38 + 1 = 1 := h9; omega)
              have hmC := hmC.fr hF9 (fun h9 => by have h8 : 103 + 4 * a38 = 1 := h9; omega)
              have hF := hF.tr (hF9.mono (fun t h9 => by have h8 : t = 1 := h9; show t = 1 ∨ t = 0 ∨ (TA ≤ t ∧ t ≤ TA + 5) ∨ 100 ≤ t; omega))
              refine v_aload_n C dX6_open_111 rfl ?_
              refine v_aload C dX6_open_112 rfl ?_
              refine v_putf C p37 hb rfl rfl (Nat.le_of_ble_eq_true rfl) dX6_open_114 ?_
              refine v_upd hb (fun w hb hF9 hE9 => ?_)
              have hA := hA.fr hF9 (fun t x y h9 => by have h8 : t = 1 := h9; omega) (fun i x y t z u h9 => by have h8 : t = 1 := h9; omega)
              have hm1 := hF9 _ _ _ (fun h9 => by have h8 : 100 + 4 * a38 = 1 := h9; omega) hm1
              have hmL := hmL.fr hF9 (fun h9 => by have h8 : 101 + 4 * a38 = 1 := h9; omega) (fun h9 => by have h8 : 101 + 4 * a38 + 1 = 1 := h9; omega)
              have hmC := hmC.fr hF9 (fun h9 => by have h8 : 103 + 4 * a38 = 1 := h9; omega)
              have hF := hF.tr (hF9.mono (fun t h9 => by have h8 : t = 1 := h9; show t = 1 ∨ t = 0 ∨ (TA ≤ t ∧ t ≤ TA + 5) ∨ 100 ≤ t; omega))
              refine v_x ?_
              exact v_vret C rfl dX6_open_117 (by omega) (by omega) (hPO _ ⟨⟨⟨by omega, by omega, by omega, by omega⟩, by have := hx_72.nz c_75; omega⟩, a38, MA2, ha38, hb, MomAt.cg ⟨lr, LL, hm1, hmL, hmC⟩ (fun _ _ _ => rfl) (fun _ _ _ => rfl) (fun j x y => by have y : j < (0 : Int) := y; omega), hdis a38 (fun q => hane q.symm) hMn, hA, hF⟩)
            · exact absurd c_92 (by omega)
          · exact v_thrA C hfl hR0 htab rfl (List.mem_of_getElem? (i := 1) rfl) (List.mem_of_getElem? (i := 2) rfl) (List.mem_of_getElem? (i := 16) rfl) (fun w9 h => List.mem_cons_of_mem _ (List.mem_append_left _ (List.mem_append_right _ (h)))) dX6_open_78 dX6_open_81 dX6_open_82 dX6_open_84 dX6_open_87 (Nat.le_of_ble_eq_true rfl) (Nat.le_of_ble_eq_true rfl) (by dsimp only; omega) (by dsimp only; omega) (by omega) (by omega) (hPX _ _ ⟨rfl, fun g => hx_72.z c_75 (by omega), Or.inr ⟨a38, ha38, hF⟩⟩)
        · exact v_thrA C hfl hR0 htab rfl (List.mem_of_getElem? (i := 1) rfl) (List.mem_of_getElem? (i := 2) rfl) (List.mem_of_getElem? (i := 15) rfl) (fun w9 h => List.mem_cons_of_mem _ (List.mem_append_left _ (List.mem_append_right _ (h)))) dX6_open_28 dX6_open_31 dX6_open_32 dX6_open_34 dX6_open_37 (Nat.le_of_ble_eq_true rfl) (Nat.le_of_ble_eq_true rfl) (by dsimp only; omega) (by dsimp only; omega) (by omega) (by omega) (hPX _ _ ⟨rfl, fun g => by omega, Or.inl hw0.symm⟩)
set_option maxRecDepth 100000 in
set_option maxHeartbeats 400000 in
theorem c_ts_0 {G : GG} {l : Launch} {w : Wd} {r : Nat} {wr tp ra rb : Nat} {q1 q2 : Value} {TB : Nat} {capB vcB : Int} {ML : ML3} {MA : Int → Nat} (hb : w r = some (1, .inr (9, [.ref wr, .ref tp, .ref ra, .ref rb, q1, q2]))) (hS : RowM G w TB rb capB vcB ML MA) (hTB : 6 < TB ∧ TB < 90) (hn : (ML.length : Int) = 0) : MG G l yX6_takeSpareRow wsX6_takeSpareRow 6 240 (0) (0) [.ref r] w (pV (fun (w' : Wd) => w' r = some (1, .inr (9, [.ref wr, .ref tp, .ref rb, .ref ra, .null, .null])) ∧ RowM G w' TB rb capB vcB ML MA ∧ Fr (fun t => t = 1) w w')) := by
  refine MG.of (cc := cX6_takeSpareRow) (nL := 2) (ret := none) (ll := [some (.ref r), none]) (by decide) rfl (Nat.le_of_ble_eq_true rfl) rfl ?_
  intro p e s m args below meth c C
  have hts := C.2.2.2.2.1
  have g30 : GetF G s m args 30 9 3 := getF_of C 9 3 (T := TX6) (N := 6) (Cn := RX6) (ref := "TraceBook") rfl (by decide) (fun _ h => List.mem_cons_of_mem _ (List.mem_append_left _ (List.mem_append_left _ (List.mem_append_right _ (h))))) (List.mem_of_getElem? (i := 1) rfl) (fun _ h => h)
  have g26 : GetF G s m args 26 9 2 := getF_of C 9 2 (T := TX6) (N := 6) (Cn := RX6) (ref := "TraceBook") rfl (by decide) (fun _ h => List.mem_cons_of_mem _ (List.mem_append_left _ (List.mem_append_left _ (List.mem_append_right _ (h))))) (List.mem_of_getElem? (i := 2) rfl) (fun _ h => h)
  have p30 : PutF G s m args 30 9 3 (.object "TraceBook$Row") := putF_of C 9 3 tyX6 tyX6_ok nmX6 (T := TX6) (N := 6) (Cn := RX6) (ref := "TraceBook") rfl (by decide) (fun _ h => List.mem_cons_of_mem _ (List.mem_append_left _ (List.mem_append_left _ (List.mem_append_right _ (h))))) (List.mem_of_getElem? (i := 1) rfl) (fun _ h => h) rfl (by decide +kernel)
  have p26 : PutF G s m args 26 9 2 (.object "TraceBook$Row") := putF_of C 9 2 tyX6 tyX6_ok nmX6 (T := TX6) (N := 6) (Cn := RX6) (ref := "TraceBook") rfl (by decide) (fun _ h => List.mem_cons_of_mem _ (List.mem_append_left _ (List.mem_append_left _ (List.mem_append_right _ (h))))) (List.mem_of_getElem? (i := 2) rfl) (fun _ h => h) rfl (by decide +kernel)
  have p33 : PutF G s m args 33 9 4 (.object "TraceBook$Moment") := putF_of C 9 4 tyX6 tyX6_ok nmX6 (T := TX6) (N := 6) (Cn := RX6) (ref := "TraceBook") rfl (by decide) (fun _ h => List.mem_cons_of_mem _ (List.mem_append_left _ (List.mem_append_left _ (List.mem_append_right _ (h))))) (List.mem_of_getElem? (i := 3) rfl) (fun _ h => h) rfl (by decide +kernel)
  have p37 : PutF G s m args 37 9 5 (.object "TraceBook$Moment") := putF_of C 9 5 tyX6 tyX6_ok nmX6 (T := TX6) (N := 6) (Cn := RX6) (ref := "TraceBook") rfl (by decide) (fun _ h => List.mem_cons_of_mem _ (List.mem_append_left _ (List.mem_append_left _ (List.mem_append_right _ (h))))) (List.mem_of_getElem? (i := 4) rfl) (fun _ h => h) rfl (by decide +kernel)
  refine poV (P := fun PO => V G p l e _ s m args below meth c (MQW G below args s _ _ (pV PO)) w 0 0 0 _ []) (fun PO hPO => ?_)
  obtain ⟨w0, hw0⟩ : ∃ z, z = w := ⟨_, rfl⟩
  rw [← hw0] at hPO
  have hF : Fr (fun t => t = 1) w0 w := by rw [hw0]; exact Fr.rf
  refine v_aload_n C dX6_takeSpareRow_0 rfl ?_
  refine v_getf C g30 hb rfl dX6_takeSpareRow_1 ?_
  refine v_astore_n C dX6_takeSpareRow_4 bsl_2_1 (by decide) rfl ?_
  refine v_aload_n C dX6_takeSpareRow_5 rfl ?_
  refine v_aload_n C dX6_takeSpareRow_6 rfl ?_
  refine v_getf C g26 hb rfl dX6_takeSpareRow_7 ?_
  refine v_putf C p30 hb rfl rfl (Nat.le_of_ble_eq_true rfl) dX6_takeSpareRow_10 ?_
  refine v_upd hb (fun w hb hF9 hE9 => ?_)
  have hS := hS.fr hF9 (fun t x y h9 => by have h8 : t = 1 := h9; omega) (fun i x y t z u h9 => by have h8 : t = 1 := h9; omega)
  have hF := hF.tr (hF9.mono (fun t h9 => by have h8 : t = 1 := h9; show t = 1; omega))
  refine v_aload_n C dX6_takeSpareRow_13 rfl ?_
  refine v_aload_n C dX6_takeSpareRow_14 rfl ?_
  refine v_putf C p26 hb rfl rfl (Nat.le_of_ble_eq_true rfl) dX6_takeSpareRow_15 ?_
  refine v_upd hb (fun w hb hF9 hE9 => ?_)
  have hS := hS.fr hF9 (fun t x y h9 => by have h8 : t = 1 := h9; omega) (fun i x y t z u h9 => by have h8 : t = 1 := h9; omega)
  have hF := hF.tr (hF9.mono (fun t h9 => by have h8 : t = 1 := h9; show t = 1; omega))
  refine v_aload_n C dX6_takeSpareRow_18 rfl ?_
  refine v_aload_n C dX6_takeSpareRow_19 rfl ?_
  refine v_getf C g26 hb rfl dX6_takeSpareRow_20 ?_
  refine v_callVr C (q := (RX4, TX4, 3)) (As := []) (rest := [_]) (c_X4_lastMoment hS.choose_spec.choose_spec.choose_spec.choose_spec.choose_spec.1 (fun hn => by obtain ⟨vs, e⟩ := hS.mem (i := (ML.length : Int) - 1) (by omega) (by omega); exact ⟨_, _, e⟩)) (cwV 0 hts gX6_takeSpareRow_X4_lastMoment rfl rfl rfl (by decide +kernel) ⟨Nat.le_of_ble_eq_true rfl, Nat.le_of_ble_eq_true rfl⟩) (hS.obj.choose_spec) rfl rfl rfl (Nat.le_of_ble_eq_true rfl) dX6_takeSpareRow_23 (by dsimp only; omega) (by dsimp only; omega) (fun x_23 w hp => ?_)
  obtain ⟨hx23, rfl⟩ := hp
  rw [if_pos hn] at hx23
  subst hx23
  refine v_wide (k' := 0) (z' := 0) (Nat.le_refl _) (Nat.le_refl _) ?_
  refine v_putf C p33 hb rfl rfl (Nat.le_of_ble_eq_true rfl) dX6_takeSpareRow_26 ?_
  refine v_upd hb (fun w hb hF9 hE9 => ?_)
  have hS := hS.fr hF9 (fun t x y h9 => by have h8 : t = 1 := h9; omega) (fun i x y t z u h9 => by have h8 : t = 1 := h9; omega)
  have hF := hF.tr (hF9.mono (fun t h9 => by have h8 : t = 1 := h9; show t = 1; omega))
  refine v_aload_n C dX6_takeSpareRow_29 rfl ?_
  refine v_null C dX6_takeSpareRow_30 ?_
  refine v_putf C p37 hb rfl rfl (Nat.le_of_ble_eq_true rfl) dX6_takeSpareRow_31 ?_
  refine v_upd hb (fun w hb hF9 hE9 => ?_)
  have hS := hS.fr hF9 (fun t x y h9 => by have h8 : t = 1 := h9; omega) (fun i x y t z u h9 => by have h8 : t = 1 := h9; omega)
  have hF := hF.tr (hF9.mono (fun t h9 => by have h8 : t = 1 := h9; show t = 1; omega))
  exact v_vret C rfl dX6_takeSpareRow_34 (by omega) (by omega) (hPO _ ⟨hb, hS, hF⟩)
set_option maxRecDepth 100000 in
set_option maxHeartbeats 400000 in
theorem c_ts_N {G : GG} {l : Launch} {w : Wd} {r : Nat} {wr tp ra rb : Nat} {q1 q2 : Value} {TB : Nat} {capB vcB : Int} {ML : ML3} {MA : Int → Nat} (hb : w r = some (1, .inr (9, [.ref wr, .ref tp, .ref ra, .ref rb, q1, q2]))) (hS : RowM G w TB rb capB vcB ML MA) (hTB : 6 < TB ∧ TB < 90) (hn : 0 < (ML.length : Int)) : MG G l yX6_takeSpareRow wsX6_takeSpareRow 6 240 (0) (0) [.ref r] w (pV (fun (w' : Wd) => w' r = some (1, .inr (9, [.ref wr, .ref tp, .ref rb, .ref ra, .ref (MA (ML.length - 1)), .null])) ∧ RowM G w' TB rb capB vcB ML MA ∧ Fr (fun t => t = 1) w w')) := by
  refine MG.of (cc := cX6_takeSpareRow) (nL := 2) (ret := none) (ll := [some (.ref r), none]) (by decide) rfl (Nat.le_of_ble_eq_true rfl) rfl ?_
  intro p e s m args below meth c C
  have hts := C.2.2.2.2.1
  have g30 : GetF G s m args 30 9 3 := getF_of C 9 3 (T := TX6) (N := 6) (Cn := RX6) (ref := "TraceBook") rfl (by decide) (fun _ h => List.mem_cons_of_mem _ (List.mem_append_left _ (List.mem_append_left _ (List.mem_append_right _ (h))))) (List.mem_of_getElem? (i := 1) rfl) (fun _ h => h)
  have g26 : GetF G s m args 26 9 2 := getF_of C 9 2 (T := TX6) (N := 6) (Cn := RX6) (ref := "TraceBook") rfl (by decide) (fun _ h => List.mem_cons_of_mem _ (List.mem_append_left _ (List.mem_append_left _ (List.mem_append_right _ (h))))) (List.mem_of_getElem? (i := 2) rfl) (fun _ h => h)
  have p30 : PutF G s m args 30 9 3 (.object "TraceBook$Row") := putF_of C 9 3 tyX6 tyX6_ok nmX6 (T := TX6) (N := 6) (Cn := RX6) (ref := "TraceBook") rfl (by decide) (fun _ h => List.mem_cons_of_mem _ (List.mem_append_left _ (List.mem_append_left _ (List.mem_append_right _ (h))))) (List.mem_of_getElem? (i := 1) rfl) (fun _ h => h) rfl (by decide +kernel)
  have p26 : PutF G s m args 26 9 2 (.object "TraceBook$Row") := putF_of C 9 2 tyX6 tyX6_ok nmX6 (T := TX6) (N := 6) (Cn := RX6) (ref := "TraceBook") rfl (by decide) (fun _ h => List.mem_cons_of_mem _ (List.mem_append_left _ (List.mem_append_left _ (List.mem_append_right _ (h))))) (List.mem_of_getElem? (i := 2) rfl) (fun _ h => h) rfl (by decide +kernel)
  have p33 : PutF G s m args 33 9 4 (.object "TraceBook$Moment") := putF_of C 9 4 tyX6 tyX6_ok nmX6 (T := TX6) (N := 6) (Cn := RX6) (ref := "TraceBook") rfl (by decide) (fun _ h => List.mem_cons_of_mem _ (List.mem_append_left _ (List.mem_append_left _ (List.mem_append_right _ (h))))) (List.mem_of_getElem? (i := 3) rfl) (fun _ h => h) rfl (by decide +kernel)
  have p37 : PutF G s m args 37 9 5 (.object "TraceBook$Moment") := putF_of C 9 5 tyX6 tyX6_ok nmX6 (T := TX6) (N := 6) (Cn := RX6) (ref := "TraceBook") rfl (by decide) (fun _ h => List.mem_cons_of_mem _ (List.mem_append_left _ (List.mem_append_left _ (List.mem_append_right _ (h))))) (List.mem_of_getElem? (i := 4) rfl) (fun _ h => h) rfl (by decide +kernel)
  refine poV (P := fun PO => V G p l e _ s m args below meth c (MQW G below args s _ _ (pV PO)) w 0 0 0 _ []) (fun PO hPO => ?_)
  obtain ⟨w0, hw0⟩ : ∃ z, z = w := ⟨_, rfl⟩
  rw [← hw0] at hPO
  have hF : Fr (fun t => t = 1) w0 w := by rw [hw0]; exact Fr.rf
  refine v_aload_n C dX6_takeSpareRow_0 rfl ?_
  refine v_getf C g30 hb rfl dX6_takeSpareRow_1 ?_
  refine v_astore_n C dX6_takeSpareRow_4 bsl_2_1 (by decide) rfl ?_
  refine v_aload_n C dX6_takeSpareRow_5 rfl ?_
  refine v_aload_n C dX6_takeSpareRow_6 rfl ?_
  refine v_getf C g26 hb rfl dX6_takeSpareRow_7 ?_
  refine v_putf C p30 hb rfl rfl (Nat.le_of_ble_eq_true rfl) dX6_takeSpareRow_10 ?_
  refine v_upd hb (fun w hb hF9 hE9 => ?_)
  have hS := hS.fr hF9 (fun t x y h9 => by have h8 : t = 1 := h9; omega) (fun i x y t z u h9 => by have h8 : t = 1 := h9; omega)
  have hF := hF.tr (hF9.mono (fun t h9 => by have h8 : t = 1 := h9; show t = 1; omega))
  refine v_aload_n C dX6_takeSpareRow_13 rfl ?_
  refine v_aload_n C dX6_takeSpareRow_14 rfl ?_
  refine v_putf C p26 hb rfl rfl (Nat.le_of_ble_eq_true rfl) dX6_takeSpareRow_15 ?_
  refine v_upd hb (fun w hb hF9 hE9 => ?_)
  have hS := hS.fr hF9 (fun t x y h9 => by have h8 : t = 1 := h9; omega) (fun i x y t z u h9 => by have h8 : t = 1 := h9; omega)
  have hF := hF.tr (hF9.mono (fun t h9 => by have h8 : t = 1 := h9; show t = 1; omega))
  refine v_aload_n C dX6_takeSpareRow_18 rfl ?_
  refine v_aload_n C dX6_takeSpareRow_19 rfl ?_
  refine v_getf C g26 hb rfl dX6_takeSpareRow_20 ?_
  refine v_callVr C (q := (RX4, TX4, 3)) (As := []) (rest := [_]) (c_X4_lastMoment hS.choose_spec.choose_spec.choose_spec.choose_spec.choose_spec.1 (fun hn => by obtain ⟨vs, e⟩ := hS.mem (i := (ML.length : Int) - 1) (by omega) (by omega); exact ⟨_, _, e⟩)) (cwV 0 hts gX6_takeSpareRow_X4_lastMoment rfl rfl rfl (by decide +kernel) ⟨Nat.le_of_ble_eq_true rfl, Nat.le_of_ble_eq_true rfl⟩) (hS.obj.choose_spec) rfl rfl rfl (Nat.le_of_ble_eq_true rfl) dX6_takeSpareRow_23 (by dsimp only; omega) (by dsimp only; omega) (fun x_23 w hp => ?_)
  obtain ⟨hx23, rfl⟩ := hp
  rw [if_neg (by omega)] at hx23
  subst hx23
  refine v_wide (k' := 0) (z' := 0) (Nat.le_refl _) (Nat.le_refl _) ?_
  refine v_putf C p33 hb rfl rfl (Nat.le_of_ble_eq_true rfl) dX6_takeSpareRow_26 ?_
  refine v_upd hb (fun w hb hF9 hE9 => ?_)
  have hS := hS.fr hF9 (fun t x y h9 => by have h8 : t = 1 := h9; omega) (fun i x y t z u h9 => by have h8 : t = 1 := h9; omega)
  have hF := hF.tr (hF9.mono (fun t h9 => by have h8 : t = 1 := h9; show t = 1; omega))
  refine v_aload_n C dX6_takeSpareRow_29 rfl ?_
  refine v_null C dX6_takeSpareRow_30 ?_
  refine v_putf C p37 hb rfl rfl (Nat.le_of_ble_eq_true rfl) dX6_takeSpareRow_31 ?_
  refine v_upd hb (fun w hb hF9 hE9 => ?_)
  have hS := hS.fr hF9 (fun t x y h9 => by have h8 : t = 1 := h9; omega) (fun i x y t z u h9 => by have h8 : t = 1 := h9; omega)
  have hF := hF.tr (hF9.mono (fun t h9 => by have h8 : t = 1 := h9; show t = 1; omega))
  exact v_vret C rfl dX6_takeSpareRow_34 (by omega) (by omega) (hPO _ ⟨hb, hS, hF⟩)
theorem c_takeSpare {G : GG} {l : Launch} {w : Wd} {r : Nat} {wr tp ra rb : Nat} {q1 q2 : Value} {TB : Nat} {capB vcB : Int} {ML : ML3} {MA : Int → Nat} (hb : w r = some (1, .inr (9, [.ref wr, .ref tp, .ref ra, .ref rb, q1, q2]))) (hS : RowM G w TB rb capB vcB ML MA) (hTB : 6 < TB ∧ TB < 90) : MG G l yX6_takeSpareRow wsX6_takeSpareRow 6 240 0 0 [.ref r] w (pV (fun (w' : Wd) => w' r = some (1, .inr (9, [.ref wr, .ref tp, .ref rb, .ref ra, va_rf (if (ML.length : Int) = 0 then none else some (MA (ML.length - 1))), .null])) ∧ RowM G w' TB rb capB vcB ML MA ∧ Fr (fun t => t = 1) w w')) := by
  by_cases q : (ML.length : Int) = 0
  · rw [if_pos q]; exact c_ts_0 hb hS hTB q
  · rw [if_neg q]; exact c_ts_N hb hS hTB (by omega)
set_option maxRecDepth 100000 in
set_option maxHeartbeats 400000 in
theorem c_X6_load {G : GG} {l : Launch} {w : Wd} {r : Nat} {wr tp ra rb : Nat} {q1 q2 : Value} {TB : Nat} {capB capF vcB nw tz capT : Int} {A1 T : Int → Int} (hb : w r = some (1, .inr (9, [.ref wr, .ref tp, .ref ra, .ref rb, q1, q2]))) (hW : WiresAt G w wr nw A1) (hA1 : ∀ i, 0 ≤ i → i < nw → 1 ≤ A1 i ∧ A1 i ≤ 64) (hnw : 0 ≤ nw ∧ nw ≤ 200) (hT : BytesAt G w 4 tp tz capT T) (htz : 0 ≤ tz ∧ tz ≤ 2048) (hSr : SpR G w TB rb capB vcB) (hTB : 6 < TB ∧ TB < 90) (hcF : Cap capB ((encAll 0 (-1) (fun _ => 0) (pro T tz nw A1 0 0 (-1) (fun _ => 0)).2).length : Int) capF) (hcF2 : capF ≤ 1000000) : MG G l yX6_load wsX6_load 16 640 ((1 + (3 * tz + 8 + (capF - capB) + (gva vcB (pro T tz nw A1 0 0 (-1) (fun _ => 0)).2 - vcB)).toNat)) ((5 + (1600 * tz + 4000 + 2 * (capF - capB) + 2 * (gva vcB (pro T tz nw A1 0 0 (-1) (fun _ => 0)).2 - vcB)).toNat)) [.ref r] w (pI (fun (x : Int) (w' : Wd) => x = (pro T tz nw A1 0 0 (-1) (fun _ => 0)).1 ∧ BytesAt G w' 4 tp 0 capT T ∧ (((pro T tz nw A1 0 0 (-1) (fun _ => 0)).1 ≠ -1 ∧ w' r = some (1, .inr (9, [.ref wr, .ref tp, .ref ra, .ref rb, q1, q2])) ∧ ∃ M2, RowM G w' TB rb capF (gva vcB (pro T tz nw A1 0 0 (-1) (fun _ => 0)).2) (pro T tz nw A1 0 0 (-1) (fun _ => 0)).2 M2) ∨ ((pro T tz nw A1 0 0 (-1) (fun _ => 0)).1 = -1 ∧ ∃ M2, w' r = some (1, .inr (9, [.ref wr, .ref tp, .ref rb, .ref ra, va_rf (if ((pro T tz nw A1 0 0 (-1) (fun _ => 0)).2.length : Int) = 0 then none else some (M2 ((pro T tz nw A1 0 0 (-1) (fun _ => 0)).2.length - 1))), .null])) ∧ RowM G w' TB rb capF (gva vcB (pro T tz nw A1 0 0 (-1) (fun _ => 0)).2) (pro T tz nw A1 0 0 (-1) (fun _ => 0)).2 M2 ∧ okL nw A1 0 (-1) (fun _ => 0) (pro T tz nw A1 0 0 (-1) (fun _ => 0)).2 ∧ 2 * ((pro T tz nw A1 0 0 (-1) (fun _ => 0)).2.length : Int) + 2 * numC (pro T tz nw A1 0 0 (-1) (fun _ => 0)).2 ≤ tz)) ∧ FrO (fun t => t = 0 ∨ t = 1 ∨ t = 4 ∨ t = 5 ∨ t = 6 ∨ (TB ≤ t ∧ t ≤ TB + 5)) w w')) := by
  refine MG.of (cc := cX6_load) (nL := 3) (ret := (some .int)) (ll := [some (.ref r), none, none]) (by decide) rfl (Nat.le_of_ble_eq_true rfl) rfl ?_
  intro p e s m args below meth c C
  have hts := C.2.2.2.2.1
  have g30 : GetF G s m args 30 9 3 := getF_of C 9 3 (T := TX6) (N := 6) (Cn := RX6) (ref := "TraceBook") rfl (by decide) (fun _ h => List.mem_cons_of_mem _ (List.mem_append_left _ (List.mem_append_left _ (List.mem_append_left _ (List.mem_append_left _ (List.mem_append_left _ (List.mem_append_left _ (List.mem_append_left _ (List.mem_append_right _ (h)))))))))) (List.mem_of_getElem? (i := 1) rfl) (fun _ h => h)
  have g19 : GetF G s m args 19 9 1 := getF_of C 9 1 (T := TX6) (N := 6) (Cn := RX6) (ref := "TraceBook") rfl (by decide) (fun _ h => List.mem_cons_of_mem _ (List.mem_append_left _ (List.mem_append_left _ (List.mem_append_left _ (List.mem_append_left _ (List.mem_append_left _ (List.mem_append_left _ (List.mem_append_left _ (List.mem_append_right _ (h)))))))))) (List.mem_of_getElem? (i := 5) rfl) (fun _ h => h)
  have g10 : GetF G s m args 10 9 0 := getF_of C 9 0 (T := TX6) (N := 6) (Cn := RX6) (ref := "TraceBook") rfl (by decide) (fun _ h => List.mem_cons_of_mem _ (List.mem_append_left _ (List.mem_append_left _ (List.mem_append_left _ (List.mem_append_left _ (List.mem_append_left _ (List.mem_append_left _ (List.mem_append_left _ (List.mem_append_right _ (h)))))))))) (List.mem_of_getElem? (i := 6) rfl) (fun _ h => h)
  refine poI (P := fun PO => V G p l e _ s m args below meth c (MQW G below args s _ _ (pI PO)) w 0 0 0 _ []) (fun PO hPO => ?_)
  obtain ⟨w0, hw0⟩ : ∃ z, z = w := ⟨_, rfl⟩
  rw [← hw0] at hPO
  have hFO : FrO (fun t => t = 0 ∨ t = 1 ∨ t = 4 ∨ t = 5 ∨ t = 6 ∨ (TB ≤ t ∧ t ≤ TB + 5)) w0 w := by rw [hw0]; exact FrO.rf
  obtain ⟨bt9, ml9, vk9, len9, n9, b9, vf9, M9, hS0⟩ := id hSr
  have hcg9 : (0 ≤ capB ∧ 64 ≤ capB) ∧ 64 ≤ vcB := by have h1 := hS0.2.1.rg; have h2 := hS0.2.2.2.2.1; exact ⟨⟨by omega, by omega⟩, h2.1⟩
  have hge9 := hcF.ge (by omega)
  have hgg9 := gva_ge (ML := (pro T tz nw A1 0 0 (-1) (fun _ => 0)).2) (c := vcB) (by omega)
  refine v_aload_n C dX6_load_0 rfl ?_
  refine v_getf C g30 hb rfl dX6_load_1 ?_
  refine v_callVv C (q := (RX4, TX4, 3)) (As := []) (rest := []) (c_X4_clear hS0 (by omega)) (cwV 0 hts gX6_load_X4_clear rfl rfl rfl (by decide +kernel) ⟨Nat.le_of_ble_eq_true rfl, Nat.le_of_ble_eq_true rfl⟩) (hSr.obj.choose_spec) rfl rfl rfl (Nat.le_of_ble_eq_true rfl) dX6_load_4 (by dsimp only; omega) (by dsimp only; omega) (fun w hp => ?_)
  obtain ⟨f2, hS1, hz1, hF9⟩ := hp
  have hSm := RowM.nil hS1 hz1
  have hFO := hFO.tr (hF9.o.mono (fun t h => by omega)) (fun a h => by omega)
  have hb := hF9 _ _ _ (fun h9 => by have h8 : 1 = TB ∨ 1 = TB + 1 ∨ 1 = TB + 2 ∨ 1 = TB + 3 ∨ 1 = TB + 4 ∨ 1 = TB + 5 ∨ 1 = 0 := h9; omega) hb
  have hW := hW.fr hF9 (fun h9 => by have h8 : 2 = TB ∨ 2 = TB + 1 ∨ 2 = TB + 2 ∨ 2 = TB + 3 ∨ 2 = TB + 4 ∨ 2 = TB + 5 ∨ 2 = 0 := h9; omega) (fun h9 => by have h8 : 3 = TB ∨ 3 = TB + 1 ∨ 3 = TB + 2 ∨ 3 = TB + 3 ∨ 3 = TB + 4 ∨ 3 = TB + 5 ∨ 3 = 0 := h9; omega)
  have hT := hT.fr hF9 (fun h9 => by have h8 : 4 = TB ∨ 4 = TB + 1 ∨ 4 = TB + 2 ∨ 4 = TB + 3 ∨ 4 = TB + 4 ∨ 4 = TB + 5 ∨ 4 = 0 := h9; omega) (fun h9 => by have h8 : 4 + 1 = TB ∨ 4 + 1 = TB + 1 ∨ 4 + 1 = TB + 2 ∨ 4 + 1 = TB + 3 ∨ 4 + 1 = TB + 4 ∨ 4 + 1 = TB + 5 ∨ 4 + 1 = 0 := h9; omega)
  refine v_new C (ci := 6) (T := TX3) (N := 5) (Cn := RX3) (fs := [.null, .null, .null, .int (iI 0), .int (iI 0)]) (6) tyX3 tyX3_ok rfl (fun _ h => List.mem_cons_of_mem _ (List.mem_append_left _ (List.mem_append_left _ (List.mem_append_left _ (List.mem_append_left _ (List.mem_append_left _ (List.mem_append_left _ (List.mem_append_right _ (h))))))))) (List.mem_of_getElem? (i := 2) rfl) (List.mem_of_getElem? (i := 3) rfl) (List.mem_of_getElem? (i := 4) rfl) (fun j hj => by rcases (by omega : j = 0 ∨ j = 1 ∨ j = 2 ∨ j = 3 ∨ j = 4) with rfl | rfl | rfl | rfl | rfl <;> rfl) (by dsimp only; omega) (by dsimp only; omega) dX6_load_7 (fun a7 ha7 => ?_)
  refine v_fresh ha7 (fun w h7 hF9 hE9 => ?_)
  have hSm := hSm.fr hF9 (fun t x y h9 => h9) (fun i x y t z u h9 => h9)
  have hb := hF9 _ _ _ (fun h9 => h9) hb
  have hW := hW.fr hF9 (fun h9 => h9) (fun h9 => h9)
  have hT := hT.fr hF9 (fun h9 => h9) (fun h9 => h9)
  have hFO := hFO.tr (Fr.o (hF9.mono (fun t h => h.elim))) (fun a h => by omega)
  refine v_dup C rfl dX6_load_10 ?_
  refine v_aload_n C dX6_load_11 rfl ?_
  refine v_getf C g19 hb rfl dX6_load_12 ?_
  refine v_aload_n C dX6_load_15 rfl ?_
  refine v_getf C g10 hb rfl dX6_load_16 ?_
  refine v_aload_n C dX6_load_19 rfl ?_
  refine v_getf C g30 hb rfl dX6_load_20 ?_
  refine v_callI C (ret2 := none) (b := _) (t := 0) (ci := 0) (fs := []) (q := (RX7, TX7, 33)) (As := [_, _, _]) (rest := [_]) (c_X3_init h7) (cwI 3 hts gX6_load_X3_init rfl rfl rfl (hts _ (List.mem_of_getElem? (i := 4) rfl)) (hts _ (List.mem_of_getElem? (i := 34) rfl)) (hts _ (List.mem_of_getElem? (i := 35) rfl)) rfl (by decide +kernel) ⟨Nat.le_of_ble_eq_true rfl, Nat.le_of_ble_eq_true rfl⟩) rfl rfl (Nat.le_of_ble_eq_true rfl) dX6_load_23 (by dsimp only; omega) (by dsimp only; omega) (fun w hp => ?_)
  obtain ⟨h7, hF9⟩ := hp
  have hFO := hFO.tr (hF9.o.mono (fun t h => by omega)) (fun a h => by omega)
  have hSm := hSm.fr hF9 (fun t x y h9 => by have h8 : t = 6 := h9; omega) (fun i x y t z u h9 => by have h8 : t = 6 := h9; omega)
  have hb := hF9 _ _ _ (fun h9 => by have h8 : 1 = 6 := h9; omega) hb
  have hW := hW.fr hF9 (fun h9 => by have h8 : 2 = 6 := h9; omega) (fun h9 => by have h8 : 3 = 6 := h9; omega)
  have hT := hT.fr hF9 (fun h9 => by have h8 : 4 = 6 := h9; omega) (fun h9 => by have h8 : 4 + 1 = 6 := h9; omega)
  refine v_astore_n C dX6_load_26 bsl_3_1 (by decide) rfl ?_
  refine v_aload_n C dX6_load_27 rfl ?_
  refine v_callVi C (q := (RX3, TX3, 5)) (As := []) (rest := []) (c_X3_readRow (capF := capF) h7 hT hW hA1 hnw hSm hTB htz rfl rfl hcF hcF2) (cwV 0 hts gX6_load_X3_readRow rfl rfl rfl (by decide +kernel) ⟨Nat.le_of_ble_eq_true rfl, Nat.le_of_ble_eq_true rfl⟩) (h7) rfl rfl rfl (Nat.le_of_ble_eq_true rfl) dX6_load_28 (by dsimp only; omega) (by dsimp only; omega) (fun x_28 w hp => ?_)
  obtain ⟨hx28, M2, hSm, hokP, hcnP, hFO9⟩ := hp
  have hF9 := hFO9.lo
  have hFO := hFO.tr (hFO9.mono (fun t h => by omega)) (fun a h => by omega)
  have hb := hF9 _ _ _ (fun h9 => by have h8 : (1 = 6 ∨ 1 = 0 ∨ (TB ≤ 1 ∧ 1 ≤ TB + 5)) ∨ 100 ≤ 1 := h9; omega) hb
  have hW := hW.fr hF9 (fun h9 => by have h8 : (2 = 6 ∨ 2 = 0 ∨ (TB ≤ 2 ∧ 2 ≤ TB + 5)) ∨ 100 ≤ 2 := h9; omega) (fun h9 => by have h8 : (3 = 6 ∨ 3 = 0 ∨ (TB ≤ 3 ∧ 3 ≤ TB + 5)) ∨ 100 ≤ 3 := h9; omega)
  have hT := hT.fr hF9 (fun h9 => by have h8 : (4 = 6 ∨ 4 = 0 ∨ (TB ≤ 4 ∧ 4 ≤ TB + 5)) ∨ 100 ≤ 4 := h9; omega) (fun h9 => by have h8 : (4 + 1 = 6 ∨ 4 + 1 = 0 ∨ (TB ≤ 4 + 1 ∧ 4 + 1 ≤ TB + 5)) ∨ 100 ≤ 4 + 1 := h9; omega)
  refine v_istore_n C dX6_load_31 bsl_3_2 (by decide) rfl ?_
  have hxr : R32 x_28 := by rw [hx28]; exact pro_r32 hA1 htz.1 htz.2
  refine v_aload_n C dX6_load_32 rfl ?_
  refine v_getf C g19 hb rfl dX6_load_33 ?_
  refine v_iconst C dX6_load_36 ?_
  refine v_callVv C (q := (RX0, TX0, 2)) (As := [_]) (rest := []) (c_X0_cut hT (n := 0) ⟨by omega, by omega⟩) (cwV 1 hts gX6_load_X0_cut rfl rfl rfl (by decide +kernel) ⟨Nat.le_of_ble_eq_true rfl, Nat.le_of_ble_eq_true rfl⟩) (hT.obj.choose_spec) rfl rfl rfl (Nat.le_of_ble_eq_true rfl) dX6_load_37 (by dsimp only; omega) (by dsimp only; omega) (fun w hp => ?_)
  obtain ⟨hT, hF9⟩ := hp
  have hFO := hFO.tr (hF9.o.mono (fun t h => by omega)) (fun a h => by omega)
  have hSm := hSm.fr hF9 (fun t x y h9 => by have h8 : t = 4 ∨ t = 4 + 1 ∨ t = 0 := h9; omega) (fun i x y t z u h9 => by have h8 : t = 4 ∨ t = 4 + 1 ∨ t = 0 := h9; omega)
  have hb := hF9 _ _ _ (fun h9 => by have h8 : 1 = 4 ∨ 1 = 4 + 1 ∨ 1 = 0 := h9; omega) hb
  have hW := hW.fr hF9 (fun h9 => by have h8 : 2 = 4 ∨ 2 = 4 + 1 ∨ 2 = 0 := h9; omega) (fun h9 => by have h8 : 3 = 4 ∨ 3 = 4 + 1 ∨ 3 = 0 := h9; omega)
  refine v_iload_n C dX6_load_40 rfl ?_
  refine v_iconst C dX6_load_41 ?_
  refine v_icmp_ne C (hxr) (⟨by omega, by omega⟩) (tgt := 49) dX6_load_42 (by decide) (fun c_42 => ?_) (fun c_42 => ?_)
  · refine v_iload_n C dX6_load_49 rfl ?_
    exact v_iret C rfl dX6_load_50 (by omega) (by omega) (hPO _ _ ⟨hx28, hT, Or.inl ⟨by rw [← hx28]; exact c_42, hb, M2, hSm⟩, hFO⟩)
  · refine v_aload_n C dX6_load_45 rfl ?_
    refine v_callVv C (q := (RX6, TX6, 6)) (As := []) (rest := []) (c_takeSpare hb hSm hTB) (cwV 0 hts gX6_load_X6_takeSpareRow rfl rfl rfl (by decide +kernel) ⟨Nat.le_of_ble_eq_true rfl, Nat.le_of_ble_eq_true rfl⟩) (hb) rfl rfl rfl (Nat.le_of_ble_eq_true rfl) dX6_load_46 (by dsimp only; omega) (by dsimp only; omega) (fun w hp => ?_)
    obtain ⟨hb, hSm, hF9⟩ := hp
    have hFO := hFO.tr (hF9.o.mono (fun t h => by omega)) (fun a h => by omega)
    have hW := hW.fr hF9 (fun h9 => by have h8 : 2 = 1 := h9; omega) (fun h9 => by have h8 : 3 = 1 := h9; omega)
    have hT := hT.fr hF9 (fun h9 => by have h8 : 4 = 1 := h9; omega) (fun h9 => by have h8 : 4 + 1 = 1 := h9; omega)
    refine v_iload_n C dX6_load_49 rfl ?_
    exact v_iret C rfl dX6_load_50 (by omega) (by omega) (hPO _ _ ⟨hx28, hT, Or.inr ⟨hx28.symm.trans c_42, M2, hb, hSm, hokP, hcnP⟩, hFO⟩)
