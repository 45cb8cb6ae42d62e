
section BK9
variable {G : GG} {w w2 : Wd} {S : Nat → Prop}
/-- a row that is not in use -/
def SpR (G : GG) (w : Wd) (T r : Nat) (cap vcap : Int) : Prop := ∃ (bt ml vk : Nat) (len n : Int) (b vf : Int → Int) (M : Int → Nat), RowR G w T r bt ml vk len cap b n M vcap vf
theorem SpR.fr {T r : Nat} {cap vcap : Int} (h : SpR G w T r cap vcap) (hF : Fr S w w2) (h0 : ∀ t, T ≤ t → t < T + 6 → ¬ S t) : SpR G w2 T r cap vcap := by
  obtain ⟨bt, ml, vk, len, n, b, vf, M, g1⟩ := h
  exact ⟨bt, ml, vk, len, n, b, vf, M, g1.fr hF (h0 _ (by omega) (by omega)) (h0 _ (by omega) (by omega)) (h0 _ (by omega) (by omega)) (h0 _ (by omega) (by omega)) (h0 _ (by omega) (by omega)) (h0 _ (by omega) (by omega))⟩
theorem SpR.obj {T r : Nat} {cap vcap : Int} (h : SpR G w T r cap vcap) : ∃ fs, w r = some (T, .inr (7, fs)) := by
  obtain ⟨bt, ml, vk, len, n, b, vf, M, g1⟩ := h
  exact g1.obj
theorem RowM.sp {T r : Nat} {cap vcap : Int} {ML : ML3} {M : Int → Nat} (h : RowM G w T r cap vcap ML M) : SpR G w T r cap vcap := by
  obtain ⟨bt, ml, vk, b, vf, g1, -⟩ := h
  exact ⟨bt, ml, vk, _, _, b, vf, M, g1⟩
/-- the open moment, if there is one: its changes so far -/
def OpenAt (G : GG) (w : Wd) (ML : ML3) (MA : Int → Nat) (op : Option Nat) (a : Nat) (t s : Int) (OL : List (Int × Int)) : Prop := (op = none ∧ OL = []) ∨ (op = some a ∧ MomAt G w a t s (-1) OL.length (pwL OL) (vlL OL) (fun j => sall (fun _ => 0) ML (pwL OL j)) ∧ ∀ i : Int, 0 ≤ i → i < ML.length → MA i ≠ a)
theorem OpenAt.fr {ML : ML3} {MA : Int → Nat} {op : Option Nat} {a : Nat} {t s : Int} {OL : List (Int × Int)} (h : OpenAt G w ML MA op a t s OL) (hF : Fr S w w2) (h0 : ¬ S (100 + 4 * a)) (h1 : ¬ S (101 + 4 * a)) (h2 : ¬ S (102 + 4 * a)) (h3 : ¬ S (103 + 4 * a)) : OpenAt G w2 ML MA op a t s OL := by
  rcases h with h | ⟨q1, q2, q3⟩
  · exact Or.inl h
  · exact Or.inr ⟨q1, q2.fr hF h0 h1 h2 h3, q3⟩
theorem OpenAt.frO {ML : ML3} {MA : Int → Nat} {op : Option Nat} {a : Nat} {t s : Int} {OL : List (Int × Int)} (h : OpenAt G w ML MA op a t s OL) (hF : FrO S w w2) (h0 : ∀ t, 100 ≤ t → ¬ S t) : OpenAt G w2 ML MA op a t s OL := by
  rcases h with h | ⟨q1, q2, q3⟩
  · exact Or.inl h
  · exact Or.inr ⟨q1, q2.frO hF (fun t x y => h0 t (by omega)), q3⟩
/-- the latest moment that was opened -/
def LatAt (w : Wd) (la : Option Nat) (a : Nat) (t s : Int) : Prop := la = none ∨ (la = some a ∧ ∃ q1 q2, w a = some (100 + 4 * a, .inr (5, [.long (lI t), .long (lI s), q1, q2])))
theorem LatAt.fr {la : Option Nat} {a : Nat} {t s : Int} (h : LatAt w la a t s) (hF : Fr S w w2) (h0 : ¬ S (100 + 4 * a)) : LatAt w2 la a t s := by
  rcases h with h | ⟨q1, q3, q4, q5⟩
  · exact Or.inl h
  · exact Or.inr ⟨q1, q3, q4, hF _ _ _ h0 q5⟩
theorem LatAt.frO {la : Option Nat} {a : Nat} {t s : Int} (h : LatAt w la a t s) (hF : FrO S w w2) (h0 : ¬ S (100 + 4 * a)) : LatAt w2 la a t s := by
  rcases h with h | ⟨q1, q3, q4, q5⟩
  · exact Or.inl h
  · exact Or.inr ⟨q1, q3, q4, hF _ _ _ h0 (fun _ => ⟨_, by rw [show (100 + 4 * a - 100) / 4 = a by omega]; exact q5⟩) q5⟩
def BkF (wr tp ra rb : Nat) (la op : Option Nat) : List Value := [.ref wr, .ref tp, .ref ra, .ref rb, va_rf la, va_rf op]
end BK9
set_option maxRecDepth 100000 in
set_option maxHeartbeats 400000 in
theorem c_X6_wire_N {G : GG} {l : Launch} {w : Wd} {r : Nat} {wr tp ra rb : Nat} {q2 : Value} {nw : Int} {A1 : Int → Int} {i9 : Int} (hfl : l.stackTraces = false) (hb : w r = some (1, .inr (9, [.ref wr, .ref tp, .ref ra, .ref rb, .null, q2]))) (hW : WiresAt G w wr nw A1) (hi : R32 i9) : MX G l yX6_wire wsX6_wire 16 640 (1) (6) [.ref r, .int (iI i9)] w (pI (fun (x : Int) (w' : Wd) => (1 ≤ i9 ∧ i9 ≤ 64) ∧ nw < 200 ∧ x = nw ∧ WiresAt G w' wr (nw + 1) (upI A1 nw i9) ∧ w' r = some (1, .inr (9, [.ref wr, .ref tp, .ref ra, .ref rb, .null, q2])) ∧ Fr (fun t => t = 2 ∨ t = 3) w w')) (fun (E : String) (w9 : Wd) => (E = "java/lang/IllegalArgumentException" ∧ w9 = w ∧ ¬ (1 ≤ i9 ∧ i9 ≤ 64)) ∨ (E = "java/lang/IllegalStateException" ∧ w9 = w ∧ (1 ≤ i9 ∧ i9 ≤ 64) ∧ nw = 200)) := by
  refine MX.of (cc := cX6_wire) (nL := 2) (ret := (some .int)) (ll := [some (.ref r), some (.int (iI i9))]) (by decide) rfl (Nat.le_of_ble_eq_true rfl) rfl ?_
  intro p e s m args below meth c C htab hR0
  have hts := C.2.2.2.2.1
  have g10 : GetF G s m args 10 9 0 := getF_of C 9 0 (T := TX6) (N := 6) (Cn := RX6) (ref := "TraceBook") rfl (by decide) (fun _ h => List.mem_cons_of_mem _ (List.mem_append_left _ (List.mem_append_left _ (List.mem_append_left _ (List.mem_append_right _ (h)))))) (List.mem_of_getElem? (i := 5) rfl) (fun _ h => h)
  have g47 : GetN G s m args 47 8 1 := getN_of C 8 1 (T := TX5) (N := 2) (Cn := RX5) (ref := "TraceBook$Wires") rfl (by decide) (fun _ h => List.mem_cons_of_mem _ (List.mem_append_left _ (List.mem_append_left _ (List.mem_append_right _ (h))))) (List.mem_of_getElem? (i := 0) rfl) (fun _ h => h)
  have g33 : GetF G s m args 33 9 4 := getF_of C 9 4 (T := TX6) (N := 6) (Cn := RX6) (ref := "TraceBook") rfl (by decide) (fun _ h => List.mem_cons_of_mem _ (List.mem_append_left _ (List.mem_append_left _ (List.mem_append_left _ (List.mem_append_right _ (h)))))) (List.mem_of_getElem? (i := 6) rfl) (fun _ h => h)
  refine poIX (P := fun PO PX => V G p l e _ s m args below meth c (MXQ G below args s _ _ (pI PO) PX) w 0 0 0 _ []) (fun PO PX hPO hPX => ?_)
  obtain ⟨w0, hw0⟩ : ∃ z, z = w := ⟨_, rfl⟩
  rw [← hw0] at hPO hPX
  have hF : Fr (fun t => t = 2 ∨ t = 3) w0 w := by rw [hw0]; exact Fr.rf
  have hwn : 0 ≤ nw ∧ nw ≤ 200 := by obtain ⟨kq, f, -, -, g, -⟩ := hW; exact g
  refine v_iload_n C dX6_wire_0 rfl ?_
  refine v_iconst C dX6_wire_1 ?_
  refine v_icmp_lt C (⟨by omega, by omega⟩) (⟨by omega, by omega⟩) (tgt := 11) dX6_wire_2 (by decide) (fun c_2 => ?_) (fun c_2 => ?_)
  · exact v_thrA C hfl hR0 htab rfl (List.mem_of_getElem? (i := 1) rfl) (List.mem_of_getElem? (i := 2) rfl) (List.mem_of_getElem? (i := 11) rfl) (fun w9 h => List.mem_cons_of_mem _ (List.mem_append_left _ (List.mem_append_right _ (h)))) dX6_wire_11 dX6_wire_14 dX6_wire_15 dX6_wire_17 dX6_wire_20 (Nat.le_of_ble_eq_true rfl) (Nat.le_of_ble_eq_true rfl) (by dsimp only; omega) (by dsimp only; omega) (by omega) (by omega) (hPX _ _ (Or.inl ⟨rfl, hw0.symm, by omega⟩))
  · refine v_iload_n C dX6_wire_5 rfl ?_
    refine v_bipush C dX6_wire_6 rfl ?_
    refine v_icmp_le C (⟨by omega, by omega⟩) (⟨by omega, by omega⟩) (tgt := 21) dX6_wire_8 (by decide) (fun c_8 => ?_) (fun c_8 => ?_)
    · refine v_aload_n C dX6_wire_21 rfl ?_
      refine v_getf C g10 hb rfl dX6_wire_22 ?_
      refine v_getN C g47 hW.cntF.choose_spec rfl dX6_wire_25 ?_
      refine v_sipush C dX6_wire_28 rfl ?_
      refine v_icmp_lt C (⟨by omega, by omega⟩) (⟨by omega, by omega⟩) (tgt := 44) dX6_wire_31 (by decide) (fun c_31 => ?_) (fun c_31 => ?_)
      · refine v_aload_n C dX6_wire_44 rfl ?_
        refine v_getf C g33 hb rfl dX6_wire_45 ?_
        refine v_ifnullN C (tgt := 61) dX6_wire_48 (by decide) ?_
        refine v_aload_n C dX6_wire_61 rfl ?_
        refine v_getf C g10 hb rfl dX6_wire_62 ?_
        refine v_iload_n C dX6_wire_65 rfl ?_
        refine v_callVi C (q := (RX5, TX5, 2)) (As := [_]) (rest := []) (c_X5_add hW (by omega) hi) (cwV 1 hts gX6_wire_X5_add rfl rfl rfl (by decide +kernel) ⟨Nat.le_of_ble_eq_true rfl, Nat.le_of_ble_eq_true rfl⟩) (hW.obj.choose_spec) rfl rfl rfl (Nat.le_of_ble_eq_true rfl) dX6_wire_66 (by dsimp only; omega) (by dsimp only; omega) (fun x_66 w hp => ?_)
        obtain ⟨hx66, hW, hF9⟩ := hp
        have hb := hF9 _ _ _ (fun h9 => by have h8 : 1 = 2 ∨ 1 = 3 := h9; omega) hb
        have hF := hF.tr (hF9.mono (fun t h9 => by have h8 : t = 2 ∨ t = 3 := h9; show t = 2 ∨ t = 3; omega))
        refine v_x ?_
        exact v_iret C rfl dX6_wire_69 (by omega) (by omega) (hPO _ _ ⟨⟨by omega, by omega⟩, by omega, hx66, hW, hb, hF⟩)
      · exact v_thrS C hfl hR0 htab rfl (List.mem_of_getElem? (i := 3) rfl) (List.mem_of_getElem? (i := 4) rfl) (List.mem_of_getElem? (i := 12) rfl) (fun w9 h => List.mem_cons_of_mem _ (List.mem_append_right _ (h))) dX6_wire_34 dX6_wire_37 dX6_wire_38 dX6_wire_40 dX6_wire_43 (Nat.le_of_ble_eq_true rfl) (Nat.le_of_ble_eq_true rfl) (by dsimp only; omega) (by dsimp only; omega) (by omega) (by omega) (hPX _ _ (Or.inr ⟨rfl, hw0.symm, ⟨by omega, by omega⟩, by omega⟩))
    · exact v_thrA C hfl hR0 htab rfl (List.mem_of_getElem? (i := 1) rfl) (List.mem_of_getElem? (i := 2) rfl) (List.mem_of_getElem? (i := 11) rfl) (fun w9 h => List.mem_cons_of_mem _ (List.mem_append_left _ (List.mem_append_right _ (h)))) dX6_wire_11 dX6_wire_14 dX6_wire_15 dX6_wire_17 dX6_wire_20 (Nat.le_of_ble_eq_true rfl) (Nat.le_of_ble_eq_true rfl) (by dsimp only; omega) (by dsimp only; omega) (by omega) (by omega) (hPX _ _ (Or.inl ⟨rfl, hw0.symm, by omega⟩))
set_option maxRecDepth 100000 in
set_option maxHeartbeats 400000 in
theorem c_X6_wire_S {G : GG} {l : Launch} {w : Wd} {r : Nat} {wr tp ra rb : Nat} {a : Nat} {q2 : Value} {nw : Int} {A1 : Int → Int} {i9 : Int} (hfl : l.stackTraces = false) (hb : w r = some (1, .inr (9, [.ref wr, .ref tp, .ref ra, .ref rb, .ref a, q2]))) (hW : WiresAt G w wr nw A1) (hi : R32 i9) : MX G l yX6_wire wsX6_wire 16 640 (1) (6) [.ref r, .int (iI i9)] w (pI (fun (x : Int) (w' : Wd) => False)) (fun (E : String) (w9 : Wd) => (E = "java/lang/IllegalArgumentException" ∧ w9 = w ∧ ¬ (1 ≤ i9 ∧ i9 ≤ 64)) ∨ (E = "java/lang/IllegalStateException" ∧ w9 = w ∧ (1 ≤ i9 ∧ i9 ≤ 64))) := by
  refine MX.of (cc := cX6_wire) (nL := 2) (ret := (some .int)) (ll := [some (.ref r), some (.int (iI i9))]) (by decide) rfl (Nat.le_of_ble_eq_true rfl) rfl ?_
  intro p e s m args below meth c C htab hR0
  have hts := C.2.2.2.2.1
  have g10 : GetF G s m args 10 9 0 := getF_of C 9 0 (T := TX6) (N := 6) (Cn := RX6) (ref := "TraceBook") rfl (by decide) (fun _ h => List.mem_cons_of_mem _ (List.mem_append_left _ (List.mem_append_left _ (List.mem_append_left _ (List.mem_append_right _ (h)))))) (List.mem_of_getElem? (i := 5) rfl) (fun _ h => h)
  have g47 : GetN G s m args 47 8 1 := getN_of C 8 1 (T := TX5) (N := 2) (Cn := RX5) (ref := "TraceBook$Wires") rfl (by decide) (fun _ h => List.mem_cons_of_mem _ (List.mem_append_left _ (List.mem_append_left _ (List.mem_append_right _ (h))))) (List.mem_of_getElem? (i := 0) rfl) (fun _ h => h)
  have g33 : GetF G s m args 33 9 4 := getF_of C 9 4 (T := TX6) (N := 6) (Cn := RX6) (ref := "TraceBook") rfl (by decide) (fun _ h => List.mem_cons_of_mem _ (List.mem_append_left _ (List.mem_append_left _ (List.mem_append_left _ (List.mem_append_right _ (h)))))) (List.mem_of_getElem? (i := 6) rfl) (fun _ h => h)
  refine poIX (P := fun PO PX => V G p l e _ s m args below meth c (MXQ G below args s _ _ (pI PO) PX) w 0 0 0 _ []) (fun PO PX hPO hPX => ?_)
  have hwn : 0 ≤ nw ∧ nw ≤ 200 := by obtain ⟨kq, f, -, -, g, -⟩ := hW; exact g
  refine v_iload_n C dX6_wire_0 rfl ?_
  refine v_iconst C dX6_wire_1 ?_
  refine v_icmp_lt C (⟨by omega, by omega⟩) (⟨by omega, by omega⟩) (tgt := 11) dX6_wire_2 (by decide) (fun c_2 => ?_) (fun c_2 => ?_)
  · exact v_thrA C hfl hR0 htab rfl (List.mem_of_getElem? (i := 1) rfl) (List.mem_of_getElem? (i := 2) rfl) (List.mem_of_getElem? (i := 11) rfl) (fun w9 h => List.mem_cons_of_mem _ (List.mem_append_left _ (List.mem_append_right _ (h)))) dX6_wire_11 dX6_wire_14 dX6_wire_15 dX6_wire_17 dX6_wire_20 (Nat.le_of_ble_eq_true rfl) (Nat.le_of_ble_eq_true rfl) (by dsimp only; omega) (by dsimp only; omega) (by omega) (by omega) (hPX _ _ (Or.inl ⟨rfl, rfl, by omega⟩))
  · refine v_iload_n C dX6_wire_5 rfl ?_
    refine v_bipush C dX6_wire_6 rfl ?_
    refine v_icmp_le C (⟨by omega, by omega⟩) (⟨by omega, by omega⟩) (tgt := 21) dX6_wire_8 (by decide) (fun c_8 => ?_) (fun c_8 => ?_)
    · refine v_aload_n C dX6_wire_21 rfl ?_
      refine v_getf C g10 hb rfl dX6_wire_22 ?_
      refine v_getN C g47 hW.cntF.choose_spec rfl dX6_wire_25 ?_
      refine v_sipush C dX6_wire_28 rfl ?_
      refine v_icmp_lt C (⟨by omega, by omega⟩) (⟨by omega, by omega⟩) (tgt := 44) dX6_wire_31 (by decide) (fun c_31 => ?_) (fun c_31 => ?_)
      · refine v_aload_n C dX6_wire_44 rfl ?_
        refine v_getf C g33 hb rfl dX6_wire_45 ?_
        refine v_ifnull C dX6_wire_48 ?_
        exact v_thrS C hfl hR0 htab rfl (List.mem_of_getElem? (i := 3) rfl) (List.mem_of_getElem? (i := 4) rfl) (List.mem_of_getElem? (i := 13) rfl) (fun w9 h => List.mem_cons_of_mem _ (List.mem_append_right _ (h))) dX6_wire_51 dX6_wire_54 dX6_wire_55 dX6_wire_57 dX6_wire_60 (Nat.le_of_ble_eq_true rfl) (Nat.le_of_ble_eq_true rfl) (by dsimp only; omega) (by dsimp only; omega) (by omega) (by omega) (hPX _ _ (Or.inr ⟨rfl, rfl, by omega, by omega⟩))
      · exact v_thrS C hfl hR0 htab rfl (List.mem_of_getElem? (i := 3) rfl) (List.mem_of_getElem? (i := 4) rfl) (List.mem_of_getElem? (i := 12) rfl) (fun w9 h => List.mem_cons_of_mem _ (List.mem_append_right _ (h))) dX6_wire_34 dX6_wire_37 dX6_wire_38 dX6_wire_40 dX6_wire_43 (Nat.le_of_ble_eq_true rfl) (Nat.le_of_ble_eq_true rfl) (by dsimp only; omega) (by dsimp only; omega) (by omega) (by omega) (hPX _ _ (Or.inr ⟨rfl, rfl, by omega, by omega⟩))
    · exact v_thrA C hfl hR0 htab rfl (List.mem_of_getElem? (i := 1) rfl) (List.mem_of_getElem? (i := 2) rfl) (List.mem_of_getElem? (i := 11) rfl) (fun w9 h => List.mem_cons_of_mem _ (List.mem_append_left _ (List.mem_append_right _ (h)))) dX6_wire_11 dX6_wire_14 dX6_wire_15 dX6_wire_17 dX6_wire_20 (Nat.le_of_ble_eq_true rfl) (Nat.le_of_ble_eq_true rfl) (by dsimp only; omega) (by dsimp only; omega) (by omega) (by omega) (hPX _ _ (Or.inl ⟨rfl, rfl, by omega⟩))
set_option maxRecDepth 100000 in
set_option maxHeartbeats 400000 in
theorem c_close_S {G : GG} {l : Launch} {w : Wd} {r : Nat} {wr tp ra rb : Nat} {q1 : Value} {TA a : Nat} {capA vcA capA2 nw ti sp : Int} {A1 : Int → Int} {ML : ML3} {OL : ML2} {MA : Int → Nat} (hb : w r = some (1, .inr (9, [.ref wr, .ref tp, .ref ra, .ref rb, q1, .ref a]))) (hMo : MomAt G w a ti sp (-1) OL.length (pwL OL) (vlL OL) (fun j => sall (fun _ => 0) ML (pwL OL j))) (hna : ∀ i : Int, 0 ≤ i → i < ML.length → MA i ≠ a) (hA : RowM G w TA ra capA vcA ML MA) (hok : okL nw A1 0 (-1) (fun _ => 0) ML) (hnw : 0 ≤ nw ∧ nw ≤ 200) (hTA : 6 < TA ∧ TA < 90) (ht : 0 ≤ ti ∧ ti < 1152921504606846976 ∧ 0 ≤ sp ∧ sp < 1152921504606846976) (hlt : OL ≠ [] → lasT 0 ML < ti ∨ (lasT 0 ML = ti ∧ lasS (-1) ML < sp)) (hL : okC nw A1 (-1) (sall (fun _ => 0) ML) OL) (hc : Cap capA ((encAll 0 (-1) (fun _ => 0) (addM ML ti sp OL)).length : Int) capA2) (hc2 : capA2 ≤ 1000000) (hfit : ((encAll 0 (-1) (fun _ => 0) (addM ML ti sp OL)).length : Int) ≤ 60000) (hn : (ML.length : Int) ≤ 100000) : MG G l yX6_closeOpenMoment wsX6_closeOpenMoment 12 480 (((capA2 - capA).toNat + 1 + (gvc vcA OL - vcA).toNat)) (((2 * (capA2 - capA)).toNat + ((ML.length : Int) + (ML.length : Int) / 2 + 10).toNat + (2 * (gvc vcA OL - vcA)).toNat)) [.ref r] w (pI (fun (x : Int) (w' : Wd) => x = 1 ∧ ∃ MA2, w' r = some (1, .inr (9, [.ref wr, .ref tp, .ref ra, .ref rb, q1, .null])) ∧ RowM G w' TA ra capA2 (gvc vcA OL) (addM ML ti sp OL) MA2 ∧ (∃ q3 q4, w' a = some (100 + 4 * a, .inr (5, [.long (lI ti), .long (lI sp), q3, q4]))) ∧ (∀ b : Nat, b ≠ a → (∀ i : Int, 0 ≤ i → i < ML.length → MA i ≠ b) → ∀ i : Int, 0 ≤ i → i < (addM ML ti sp OL).length → MA2 i ≠ b) ∧ Fr (fun t => t = 1 ∨ (TA ≤ t ∧ t ≤ TA + 5) ∨ t = 0 ∨ t = 100 + 4 * a) w w')) := by
  refine MG.of (cc := cX6_closeOpenMoment) (nL := 1) (ret := (some .boolean)) (ll := [some (.ref r)]) (by decide) rfl (Nat.le_of_ble_eq_true rfl) rfl ?_
  intro p e s m args below meth c C
  have hts := C.2.2.2.2.1
  have g37 : GetF G s m args 37 9 5 := getF_of C 9 5 (T := TX6) (N := 6) (Cn := RX6) (ref := "TraceBook") rfl (by decide) (fun _ h => List.mem_cons_of_mem _ (List.mem_append_left _ (List.mem_append_left _ (List.mem_append_left _ (List.mem_append_left _ (List.mem_append_left _ (List.mem_append_right _ (h)))))))) (List.mem_of_getElem? (i := 1) rfl) (fun _ h => h)
  have g120 : GetN G s m args 120 5 2 := getN_of C 5 2 (T := TX2) (N := 4) (Cn := RX2) (ref := "TraceBook$Moment") rfl (by decide) (fun _ h => List.mem_cons_of_mem _ (List.mem_append_left _ (List.mem_append_left _ (List.mem_append_left _ (List.mem_append_left _ (List.mem_append_right _ (h))))))) (List.mem_of_getElem? (i := 3) rfl) (fun _ h => h)
  have p37 : PutF G s m args 37 9 5 (.object "TraceBook$Moment") := putF_of C 9 5 tyX6 tyX6_ok nmX6 (T := TX6) (N := 6) (Cn := RX6) (ref := "TraceBook") rfl (by decide) (fun _ h => List.mem_cons_of_mem _ (List.mem_append_left _ (List.mem_append_left _ (List.mem_append_left _ (List.mem_append_left _ (List.mem_append_left _ (List.mem_append_right _ (h)))))))) (List.mem_of_getElem? (i := 1) rfl) (fun _ h => h) rfl (by decide +kernel)
  have g26 : GetF G s m args 26 9 2 := getF_of C 9 2 (T := TX6) (N := 6) (Cn := RX6) (ref := "TraceBook") rfl (by decide) (fun _ h => List.mem_cons_of_mem _ (List.mem_append_left _ (List.mem_append_left _ (List.mem_append_left _ (List.mem_append_left _ (List.mem_append_left _ (List.mem_append_right _ (h)))))))) (List.mem_of_getElem? (i := 2) rfl) (fun _ h => h)
  refine poI (P := fun PO => V G p l e _ s m args below meth c (MQW G below args s _ _ (pI PO)) w 0 0 0 _ []) (fun PO hPO => ?_)
  obtain ⟨w0, hw0⟩ : ∃ z, z = w := ⟨_, rfl⟩
  rw [← hw0] at hPO
  have hF : Fr (fun t => t = 1 ∨ (TA ≤ t ∧ t ≤ TA + 5) ∨ t = 0 ∨ t = 100 + 4 * a) w0 w := by rw [hw0]; exact Fr.rf
  obtain ⟨lr, LL, hm1, hmL, hmC⟩ := hMo
  have hmr := hmL.rg
  have hcg := hA.cap
  have hgv := gvc_ge (L := OL) (c := vcA) (by omega)
  have hge := hc.ge (by omega)
  have hE : (OL.length : Int) = 0 → OL = [] := fun q => List.length_eq_zero_iff.mp (by omega)
  refine v_aload_n C dX6_closeOpenMoment_0 rfl ?_
  refine v_getf C g37 hb rfl dX6_closeOpenMoment_1 ?_
  refine v_ifnull C dX6_closeOpenMoment_4 ?_
  refine v_aload_n C dX6_closeOpenMoment_7 rfl ?_
  refine v_getf C g37 hb rfl dX6_closeOpenMoment_8 ?_
  refine v_getN C g120 hm1 rfl dX6_closeOpenMoment_11 ?_
  refine v_callVi C (q := (RJx4a65c, TJx4a65c, 3)) (As := []) (rest := []) (c_Jx4a65c_isEmpty_aae02 hmL) (cwV 0 hts gX6_closeOpenMoment_Jx4a65c_isEmpty_aae02 rfl rfl rfl (by decide +kernel) ⟨Nat.le_of_ble_eq_true rfl, Nat.le_of_ble_eq_true rfl⟩) (hmL.obj.choose_spec) rfl rfl rfl (Nat.le_of_ble_eq_true rfl) dX6_closeOpenMoment_14 (by dsimp only; omega) (by dsimp only; omega) (fun x_14 w hp => ?_)
  obtain ⟨hx_14, rfl⟩ := hp
  refine v_if_ne C (hx_14.r32) (tgt := 36) dX6_closeOpenMoment_17 (by decide) (fun c_17 => ?_) (fun c_17 => ?_)
  · have hz : (OL.length : Int) = 0 := hx_14.nz c_17
    refine v_aload_n C dX6_closeOpenMoment_36 rfl ?_
    refine v_null C dX6_closeOpenMoment_37 ?_
    refine v_putf C p37 hb rfl rfl (Nat.le_of_ble_eq_true rfl) dX6_closeOpenMoment_38 ?_
    refine v_upd hb (fun w hb hF9 hE9 => ?_)
    have hA := hA.fr hF9 (fun t x y h9 => by have h8 : t = 1 := h9; omega) (fun i x y t z u h9 => by have h8 : t = 1 := h9; omega)
    have hm1 := hF9 _ _ _ (fun h9 => by have h8 : 100 + 4 * a = 1 := h9; omega) hm1
    have hmL := hmL.fr hF9 (fun h9 => by have h8 : 101 + 4 * a = 1 := h9; omega) (fun h9 => by have h8 : 101 + 4 * a + 1 = 1 := h9; omega)
    have hmC := hmC.fr hF9 (fun h9 => by have h8 : 103 + 4 * a = 1 := h9; omega)
    have hF := hF.tr (hF9.mono (fun t h9 => by have h8 : t = 1 := h9; show t = 1 ∨ (TA ≤ t ∧ t ≤ TA + 5) ∨ t = 0 ∨ t = 100 + 4 * a; omega))
    refine v_iconst C dX6_closeOpenMoment_41 ?_
    exact v_zret C rfl (by omega) dX6_closeOpenMoment_42 (by omega) (by omega) (hPO _ _ ⟨rfl, MA, by
          have he := hE hz
          subst he
          rw [addM_0] at hc ⊢
          have hcx := hc.stay (by omega) (by omega)
          subst hcx
          exact ⟨hb, hA, ⟨_, _, hm1⟩, fun b _ h => h, hF⟩⟩)
  · have hne : OL ≠ [] := fun q => hx_14.z c_17 (by rw [q]; rfl)
    refine v_aload_n C dX6_closeOpenMoment_20 rfl ?_
    refine v_getf C g26 hb rfl dX6_closeOpenMoment_21 ?_
    refine v_aload_n C dX6_closeOpenMoment_24 rfl ?_
    refine v_getf C g37 hb rfl dX6_closeOpenMoment_25 ?_
    refine v_callVi C (q := (RX4, TX4, 3)) (As := [_]) (rest := []) (c_append (cap2 := capA2) hA ⟨by omega, hTA.2⟩ hok hnw ⟨lr, LL, hm1, hmL, hmC⟩ ht (hlt hne) hL hna (by rw [← addM_N hne]; exact hc) hc2 (by rw [← addM_N hne]; exact hfit) hn) (cwV 1 hts gX6_closeOpenMoment_X4_append rfl rfl rfl (by decide +kernel) ⟨Nat.le_of_ble_eq_true rfl, Nat.le_of_ble_eq_true rfl⟩) (hA.obj.choose_spec) rfl rfl rfl (Nat.le_of_ble_eq_true rfl) dX6_closeOpenMoment_28 (by dsimp only; omega) (by dsimp only; omega) (fun x_28 w hp => ?_)
    obtain ⟨hx28, hA, hF9⟩ := hp
    have hb := hF9 _ _ _ (fun h9 => by have h8 : 1 = TA ∨ 1 = TA + 1 ∨ 1 = TA + 2 ∨ 1 = TA + 3 ∨ 1 = TA + 4 ∨ 1 = TA + 5 ∨ 1 = 0 ∨ 1 = 100 + 4 * a := h9; omega) hb
    have hF := hF.tr (hF9.mono (fun t h9 => by have h8 : t = TA ∨ t = TA + 1 ∨ t = TA + 2 ∨ t = TA + 3 ∨ t = TA + 4 ∨ t = TA + 5 ∨ t = 0 ∨ t = 100 + 4 * a := h9; show t = 1 ∨ (TA ≤ t ∧ t ≤ TA + 5) ∨ t = 0 ∨ t = 100 + 4 * a; omega))
    refine v_if_ne C (⟨by omega, by omega⟩) (tgt := 36) dX6_closeOpenMoment_31 (by decide) (fun c_31 => ?_) (fun c_31 => ?_)
    · refine v_aload_n C dX6_closeOpenMoment_36 rfl ?_
      refine v_null C dX6_closeOpenMoment_37 ?_
      refine v_putf C p37 hb rfl rfl (Nat.le_of_ble_eq_true rfl) dX6_closeOpenMoment_38 ?_
      refine v_upd hb (fun w hb hF9 hE9 => ?_)
      have hA := hA.fr hF9 (fun t x y h9 => by have h8 : t = 1 := h9; omega) (fun i x y t z u h9 => by have h8 : t = 1 := h9; omega)
      have hF := hF.tr (hF9.mono (fun t h9 => by have h8 : t = 1 := h9; show t = 1 ∨ (TA ≤ t ∧ t ≤ TA + 5) ∨ t = 0 ∨ t = 100 + 4 * a; omega))
      refine v_iconst C dX6_closeOpenMoment_41 ?_
      exact v_zret C rfl (by omega) dX6_closeOpenMoment_42 (by omega) (by omega) (hPO _ _ ⟨rfl, upA MA ML.length a, by
            rw [addM_N hne]
            refine ⟨hb, hA, ?_, fun b hb9 h i x y => ?_, hF⟩
            · have hl := hA.last
              obtain ⟨bt, ml, vk, b, vf, -, -, -, gM⟩ := hA
              obtain ⟨lr2, LL2, q, -⟩ := gM ML.length (by omega) (by rw [List.length_append]; show (ML.length : Int) < ((ML.length + 1 : Nat) : Int); omega)
              rw [mI_at, upA_eq] at q
              exact ⟨_, _, q⟩
            · by_cases e : i = ML.length
              · rw [e, upA_eq]; exact fun g => hb9 g.symm
              · rw [upA_ne e]; exact h i x (by rw [List.length_append] at y; have y : i < ((ML.length + 1 : Nat) : Int) := y; omega)⟩)
    · exact absurd c_31 (by omega)
set_option maxRecDepth 100000 in
set_option maxHeartbeats 400000 in
theorem c_close_N {G : GG} {l : Launch} {w : Wd} {r : Nat} {wr tp ra rb : Nat} {q1 : Value} {mc9 ms9 : Nat} (hb : w r = some (1, .inr (9, [.ref wr, .ref tp, .ref ra, .ref rb, q1, .null]))) : MG G l yX6_closeOpenMoment wsX6_closeOpenMoment 12 480 (mc9) (ms9) [.ref r] w (pI (fun (x : Int) (w' : Wd) => x = 1 ∧ w' r = some (1, .inr (9, [.ref wr, .ref tp, .ref ra, .ref rb, q1, .null])) ∧ Fr (fun t => t = 1) w w')) := by
  refine MG.of (cc := cX6_closeOpenMoment) (nL := 1) (ret := (some .boolean)) (ll := [some (.ref r)]) (by decide) rfl (Nat.le_of_ble_eq_true rfl) rfl ?_
  intro p e s m args below meth c C
  have hts := C.2.2.2.2.1
  have g37 : GetF G s m args 37 9 5 := getF_of C 9 5 (T := TX6) (N := 6) (Cn := RX6) (ref := "TraceBook") rfl (by decide) (fun _ h => List.mem_cons_of_mem _ (List.mem_append_left _ (List.mem_append_left _ (List.mem_append_left _ (List.mem_append_left _ (List.mem_append_left _ (List.mem_append_right _ (h)))))))) (List.mem_of_getElem? (i := 1) rfl) (fun _ h => h)
  have p37 : PutF G s m args 37 9 5 (.object "TraceBook$Moment") := putF_of C 9 5 tyX6 tyX6_ok nmX6 (T := TX6) (N := 6) (Cn := RX6) (ref := "TraceBook") rfl (by decide) (fun _ h => List.mem_cons_of_mem _ (List.mem_append_left _ (List.mem_append_left _ (List.mem_append_left _ (List.mem_append_left _ (List.mem_append_left _ (List.mem_append_right _ (h)))))))) (List.mem_of_getElem? (i := 1) rfl) (fun _ h => h) rfl (by decide +kernel)
  refine poI (P := fun PO => V G p l e _ s m args below meth c (MQW G below args s _ _ (pI PO)) w 0 0 0 _ []) (fun PO hPO => ?_)
  obtain ⟨w0, hw0⟩ : ∃ z, z = w := ⟨_, rfl⟩
  rw [← hw0] at hPO
  have hF : Fr (fun t => t = 1) w0 w := by rw [hw0]; exact Fr.rf
  refine v_aload_n C dX6_closeOpenMoment_0 rfl ?_
  refine v_getf C g37 hb rfl dX6_closeOpenMoment_1 ?_
  refine v_ifnullN C (tgt := 36) dX6_closeOpenMoment_4 (by decide) ?_
  refine v_aload_n C dX6_closeOpenMoment_36 rfl ?_
  refine v_null C dX6_closeOpenMoment_37 ?_
  refine v_putf C p37 hb rfl rfl (Nat.le_of_ble_eq_true rfl) dX6_closeOpenMoment_38 ?_
  refine v_upd hb (fun w hb hF9 hE9 => ?_)
  have hF := hF.tr (hF9.mono (fun t h9 => by have h8 : t = 1 := h9; show t = 1; omega))
  refine v_iconst C dX6_closeOpenMoment_41 ?_
  exact v_zret C rfl (by omega) dX6_closeOpenMoment_42 (by omega) (by omega) (hPO _ _ ⟨rfl, hb, hF⟩)
theorem c_closeOpen {G : GG} {l : Launch} {w : Wd} {r : Nat} {wr tp ra rb : Nat} {q1 : Value} {op : Option Nat} {TA a : Nat} {capA vcA capA2 nw ti sp : Int} {A1 : Int → Int} {ML : ML3} {OL : ML2} {MA : Int → Nat} (hb : w r = some (1, .inr (9, [.ref wr, .ref tp, .ref ra, .ref rb, q1, va_rf op]))) (hOp : OpenAt G w ML MA op a ti sp OL) (hA : RowM G w TA ra capA vcA ML MA) (hok : okL nw A1 0 (-1) (fun _ => 0) ML) (hnw : 0 ≤ nw ∧ nw ≤ 200) (hTA : 6 < TA ∧ TA < 90) (ht : 0 ≤ ti ∧ ti < 1152921504606846976 ∧ 0 ≤ sp ∧ sp < 1152921504606846976) (hlt : OL ≠ [] → lasT 0 ML < ti ∨ (lasT 0 ML = ti ∧ lasS (-1) ML < sp)) (hL : okC nw A1 (-1) (sall (fun _ => 0) ML) OL) (hc : Cap capA ((encAll 0 (-1) (fun _ => 0) (addM ML ti sp OL)).length : Int) capA2) (hc2 : capA2 ≤ 1000000) (hfit : ((encAll 0 (-1) (fun _ => 0) (addM ML ti sp OL)).length : Int) ≤ 60000) (hn : (ML.length : Int) ≤ 100000) (hla : op = none → ∃ q3 q4, w a = some (100 + 4 * a, .inr (5, [.long (lI ti), .long (lI sp), q3, q4]))) : MG G l yX6_closeOpenMoment wsX6_closeOpenMoment 12 480 (((capA2 - capA).toNat + 1 + (gvc vcA OL - vcA).toNat)) (((2 * (capA2 - capA)).toNat + ((ML.length : Int) + (ML.length : Int) / 2 + 10).toNat + (2 * (gvc vcA OL - vcA)).toNat)) [.ref r] w (pI (fun (x : Int) (w' : Wd) => x = 1 ∧ ∃ MA2, w' r = some (1, .inr (9, [.ref wr, .ref tp, .ref ra, .ref rb, q1, .null])) ∧ RowM G w' TA ra capA2 (gvc vcA OL) (addM ML ti sp OL) MA2 ∧ (∃ q3 q4, w' a = some (100 + 4 * a, .inr (5, [.long (lI ti), .long (lI sp), q3, q4]))) ∧ (∀ b : Nat, b ≠ a → (∀ i : Int, 0 ≤ i → i < ML.length → MA i ≠ b) → ∀ i : Int, 0 ≤ i → i < (addM ML ti sp OL).length → MA2 i ≠ b) ∧ Fr (fun t => t = 1 ∨ (TA ≤ t ∧ t ≤ TA + 5) ∨ t = 0 ∨ t = 100 + 4 * a) w w')) := by
  have hcg := hA.cap
  rcases hOp with ⟨rfl, rfl⟩ | ⟨rfl, hMo, hna⟩
  · rw [addM_0] at hc ⊢
    have hcx := hc.stay (by omega) (by omega)
    subst hcx
    refine (c_close_N hb).imp fun v w' hv => ?_
    obtain ⟨x, hv, hx, hb', hF⟩ := hv
    obtain ⟨q3, q4, hq⟩ := hla rfl
    exact ⟨x, hv, hx, MA, hb', hA.fr hF (fun t x y h9 => by omega) (fun i x y t z u h9 => by omega), ⟨q3, q4, hF _ _ _ (fun h9 => by have h8 : 100 + 4 * a = 1 := h9; omega) hq⟩, fun b _ h => h, hF.mono (fun t h => Or.inl h)⟩
  · exact c_close_S hb hMo hna hA hok hnw hTA ht hlt hL hc hc2 hfit hn
set_option maxRecDepth 100000 in
set_option maxHeartbeats 400000 in
theorem c_X6_change_N {G : GG} {l : Launch} {w : Wd} {r : Nat} {wr tp ra rb : Nat} {q1 : Value} {mc9 ms9 : Nat} {nw : Int} {A1 : Int → Int} {i9 e9 v9 : Int} (hfl : l.stackTraces = false) (hb : w r = some (1, .inr (9, [.ref wr, .ref tp, .ref ra, .ref rb, q1, .null]))) (hW : WiresAt G w wr nw A1) (hA1 : ∀ i, 0 ≤ i → i < nw → 1 ≤ A1 i ∧ A1 i ≤ 64) (hi : R32 i9) (he : R32 e9) (hv : R32 v9) (hcs : 1 ≤ mc9 ∧ 6 ≤ ms9) : MX G l yX6_change wsX6_change 16 640 (mc9) (ms9) [.ref r, .int (iI i9), .int (iI e9), .int (iI v9)] w (pI (fun (x : Int) (w' : Wd) => False)) (fun (E : String) (w9 : Wd) => (E = "java/lang/IndexOutOfBoundsException" ∧ w9 = w ∧ ¬ (0 ≤ i9 ∧ i9 < nw ∧ 0 ≤ e9 ∧ e9 < A1 i9)) ∨ (E = "java/lang/IllegalArgumentException" ∧ w9 = w ∧ (0 ≤ i9 ∧ i9 < nw ∧ 0 ≤ e9 ∧ e9 < A1 i9) ∧ ¬ (0 ≤ v9 ∧ v9 ≤ 8)) ∨ (E = "java/lang/IllegalStateException" ∧ w9 = w ∧ (0 ≤ i9 ∧ i9 < nw ∧ 0 ≤ e9 ∧ e9 < A1 i9) ∧ (0 ≤ v9 ∧ v9 ≤ 8))) := by
  refine MX.of (cc := cX6_change) (nL := 4) (ret := (some .boolean)) (ll := [some (.ref r), some (.int (iI i9)), some (.int (iI e9)), some (.int (iI v9))]) (by decide) rfl (Nat.le_of_ble_eq_true rfl) rfl ?_
  intro p e s m args below meth c C htab hR0
  have hts := C.2.2.2.2.1
  have g10 : GetF G s m args 10 9 0 := getF_of C 9 0 (T := TX6) (N := 6) (Cn := RX6) (ref := "TraceBook") rfl (by decide) (fun _ h => List.mem_cons_of_mem _ (List.mem_append_left _ (List.mem_append_left _ (List.mem_append_left _ (List.mem_append_left _ (List.mem_append_left _ (List.mem_append_left _ (List.mem_append_left _ (List.mem_append_left _ (List.mem_append_right _ (h))))))))))) (List.mem_of_getElem? (i := 7) rfl) (fun _ h => h)
  have g37 : GetF G s m args 37 9 5 := getF_of C 9 5 (T := TX6) (N := 6) (Cn := RX6) (ref := "TraceBook") rfl (by decide) (fun _ h => List.mem_cons_of_mem _ (List.mem_append_left _ (List.mem_append_left _ (List.mem_append_left _ (List.mem_append_left _ (List.mem_append_left _ (List.mem_append_left _ (List.mem_append_left _ (List.mem_append_left _ (List.mem_append_right _ (h))))))))))) (List.mem_of_getElem? (i := 8) rfl) (fun _ h => h)
  refine poIX (P := fun PO PX => V G p l e _ s m args below meth c (MXQ G below args s _ _ (pI PO) PX) w 0 0 0 _ []) (fun PO PX hPO hPX => ?_)
  refine v_aload_n C dX6_change_0 rfl ?_
  refine v_getf C g10 hb rfl dX6_change_1 ?_
  refine v_iload_n C dX6_change_4 rfl ?_
  refine v_iload_n C dX6_change_5 rfl ?_
  refine v_callVi C (q := (RX5, TX5, 2)) (As := [_, _]) (rest := []) (c_X5_hasElement hW hi he hA1) (cwV 2 hts gX6_change_X5_hasElement rfl rfl rfl (by decide +kernel) ⟨Nat.le_of_ble_eq_true rfl, Nat.le_of_ble_eq_true rfl⟩) (hW.obj.choose_spec) rfl rfl rfl (Nat.le_of_ble_eq_true rfl) dX6_change_6 (by dsimp only; omega) (by dsimp only; omega) (fun x_6 w hp => ?_)
  obtain ⟨hx_6, rfl⟩ := hp
  refine v_if_ne C (hx_6.r32) (tgt := 22) dX6_change_9 (by decide) (fun c_9 => ?_) (fun c_9 => ?_)
  · have hz := hx_6.nz c_9
    have hA9 := hA1 i9 hz.1.1 hz.1.2
    refine v_iload_n C dX6_change_22 rfl ?_
    refine v_if_lt C (⟨by omega, by omega⟩) (tgt := 32) dX6_change_23 (by decide) (fun c_23 => ?_) (fun c_23 => ?_)
    · exact v_thrA C hfl hR0 htab rfl (List.mem_of_getElem? (i := 3) rfl) (List.mem_of_getElem? (i := 4) rfl) (List.mem_of_getElem? (i := 2) rfl) (fun w9 h => List.mem_cons_of_mem _ (List.mem_append_left _ (List.mem_append_right _ (h)))) dX6_change_32 dX6_change_35 dX6_change_36 dX6_change_38 dX6_change_41 (Nat.le_of_ble_eq_true rfl) (Nat.le_of_ble_eq_true rfl) (by dsimp only; omega) (by dsimp only; omega) (by omega) (by omega) (hPX _ _ (Or.inr (Or.inl ⟨rfl, rfl, ⟨hz.1.1, hz.1.2, hz.2.1, hz.2.2⟩, by omega⟩)))
    · refine v_iload_n C dX6_change_26 rfl ?_
      refine v_bipush C dX6_change_27 rfl ?_
      refine v_icmp_le C (⟨by omega, by omega⟩) (⟨by omega, by omega⟩) (tgt := 42) dX6_change_29 (by decide) (fun c_29 => ?_) (fun c_29 => ?_)
      · refine v_aload_n C dX6_change_42 rfl ?_
        refine v_getf C g37 hb rfl dX6_change_43 ?_
        refine v_ifnonnullN C dX6_change_46 ?_
        exact v_thrS C hfl hR0 htab rfl (List.mem_of_getElem? (i := 5) rfl) (List.mem_of_getElem? (i := 6) rfl) (List.mem_of_getElem? (i := 3) rfl) (fun w9 h => List.mem_cons_of_mem _ (List.mem_append_right _ (h))) dX6_change_49 dX6_change_52 dX6_change_53 dX6_change_55 dX6_change_58 (Nat.le_of_ble_eq_true rfl) (Nat.le_of_ble_eq_true rfl) (by dsimp only; omega) (by dsimp only; omega) (by omega) (by omega) (hPX _ _ (Or.inr (Or.inr ⟨rfl, rfl, ⟨hz.1.1, hz.1.2, hz.2.1, hz.2.2⟩, by omega, by omega⟩)))
      · exact v_thrA C hfl hR0 htab rfl (List.mem_of_getElem? (i := 3) rfl) (List.mem_of_getElem? (i := 4) rfl) (List.mem_of_getElem? (i := 2) rfl) (fun w9 h => List.mem_cons_of_mem _ (List.mem_append_left _ (List.mem_append_right _ (h)))) dX6_change_32 dX6_change_35 dX6_change_36 dX6_change_38 dX6_change_41 (Nat.le_of_ble_eq_true rfl) (Nat.le_of_ble_eq_true rfl) (by dsimp only; omega) (by dsimp only; omega) (by omega) (by omega) (hPX _ _ (Or.inr (Or.inl ⟨rfl, rfl, ⟨hz.1.1, hz.1.2, hz.2.1, hz.2.2⟩, by omega⟩)))
  · exact v_thrI C hfl hR0 htab rfl (List.mem_of_getElem? (i := 1) rfl) (List.mem_of_getElem? (i := 2) rfl) (List.mem_of_getElem? (i := 1) rfl) (fun w9 h => List.mem_cons_of_mem _ (List.mem_append_left _ (List.mem_append_left _ (List.mem_append_right _ (h))))) dX6_change_12 dX6_change_15 dX6_change_16 dX6_change_18 dX6_change_21 (Nat.le_of_ble_eq_true rfl) (Nat.le_of_ble_eq_true rfl) (by dsimp only; omega) (by dsimp only; omega) (by omega) (by omega) (hPX _ _ (Or.inl ⟨rfl, rfl, fun g => hx_6.z c_9 ⟨⟨g.1, g.2.1⟩, g.2.2⟩⟩))
set_option maxRecDepth 100000 in
set_option maxHeartbeats 400000 in
theorem c_X6_change_S {G : GG} {l : Launch} {w : Wd} {r : Nat} {wr tp ra rb : Nat} {q1 : Value} {TA a : Nat} {capA vcA ti sp : Int} {ML : ML3} {OL : ML2} {MA : Int → Nat} {mc9 ms9 : Nat} {nw : Int} {A1 : Int → Int} {i9 e9 v9 : Int} (hfl : l.stackTraces = false) (hb : w r = some (1, .inr (9, [.ref wr, .ref tp, .ref ra, .ref rb, q1, .ref a]))) (hW : WiresAt G w wr nw A1) (hA1 : ∀ i, 0 ≤ i → i < nw → 1 ≤ A1 i ∧ A1 i ≤ 64) (hi : R32 i9) (he : R32 e9) (hv : R32 v9) (hA : RowM G w TA ra capA vcA ML MA) (hok : okL nw A1 0 (-1) (fun _ => 0) ML) (hnw : 0 ≤ nw ∧ nw ≤ 200) (hMo : MomAt G w a ti sp (-1) OL.length (pwL OL) (vlL OL) (fun j => sall (fun _ => 0) ML (pwL OL j))) (hL : okC nw A1 (-1) (sall (fun _ => 0) ML) OL) (hTA : 6 < TA ∧ TA < 90) (hn : (OL.length : Int) ≤ 100000) (hcs : 2 ≤ mc9 ∧ OL.length + OL.length / 2 + 14 ≤ ms9) : MX G l yX6_change wsX6_change 16 640 (mc9) (ms9) [.ref r, .int (iI i9), .int (iI e9), .int (iI v9)] w (pI (fun (x : Int) (w' : Wd) => (0 ≤ i9 ∧ i9 < nw ∧ 0 ≤ e9 ∧ e9 < A1 i9) ∧ (0 ≤ v9 ∧ v9 ≤ 8) ∧ ∃ OL2 : ML2, okC nw A1 (-1) (sall (fun _ => 0) ML) OL2 ∧ (OL2.length : Int) ≤ OL.length + 1 ∧ sfold (sall (fun _ => 0) ML) OL2 = upI (sfold (sall (fun _ => 0) ML) OL) (64 * i9 + e9) v9 ∧ BP x (¬ sfold (sall (fun _ => 0) ML) OL (64 * i9 + e9) = v9) ∧ MomAt G w' a ti sp (-1) OL2.length (pwL OL2) (vlL OL2) (fun j => sall (fun _ => 0) ML (pwL OL2 j)) ∧ w' r = some (1, .inr (9, [.ref wr, .ref tp, .ref ra, .ref rb, q1, .ref a])) ∧ Fr (fun t => t = 101 + 4 * a ∨ t = 102 + 4 * a ∨ t = 103 + 4 * a ∨ t = 0) w w')) (fun (E : String) (w9 : Wd) => (E = "java/lang/IndexOutOfBoundsException" ∧ w9 = w ∧ ¬ (0 ≤ i9 ∧ i9 < nw ∧ 0 ≤ e9 ∧ e9 < A1 i9)) ∨ (E = "java/lang/IllegalArgumentException" ∧ w9 = w ∧ (0 ≤ i9 ∧ i9 < nw ∧ 0 ≤ e9 ∧ e9 < A1 i9) ∧ ¬ (0 ≤ v9 ∧ v9 ≤ 8))) := by
  refine MX.of (cc := cX6_change) (nL := 4) (ret := (some .boolean)) (ll := [some (.ref r), some (.int (iI i9)), some (.int (iI e9)), some (.int (iI v9))]) (by decide) rfl (Nat.le_of_ble_eq_true rfl) rfl ?_
  intro p e s m args below meth c C htab hR0
  have hts := C.2.2.2.2.1
  have g10 : GetF G s m args 10 9 0 := getF_of C 9 0 (T := TX6) (N := 6) (Cn := RX6) (ref := "TraceBook") rfl (by decide) (fun _ h => List.mem_cons_of_mem _ (List.mem_append_left _ (List.mem_append_left _ (List.mem_append_left _ (List.mem_append_left _ (List.mem_append_left _ (List.mem_append_left _ (List.mem_append_left _ (List.mem_append_left _ (List.mem_append_right _ (h))))))))))) (List.mem_of_getElem? (i := 7) rfl) (fun _ h => h)
  have g37 : GetF G s m args 37 9 5 := getF_of C 9 5 (T := TX6) (N := 6) (Cn := RX6) (ref := "TraceBook") rfl (by decide) (fun _ h => List.mem_cons_of_mem _ (List.mem_append_left _ (List.mem_append_left _ (List.mem_append_left _ (List.mem_append_left _ (List.mem_append_left _ (List.mem_append_left _ (List.mem_append_left _ (List.mem_append_left _ (List.mem_append_right _ (h))))))))))) (List.mem_of_getElem? (i := 8) rfl) (fun _ h => h)
  have g26 : GetF G s m args 26 9 2 := getF_of C 9 2 (T := TX6) (N := 6) (Cn := RX6) (ref := "TraceBook") rfl (by decide) (fun _ h => List.mem_cons_of_mem _ (List.mem_append_left _ (List.mem_append_left _ (List.mem_append_left _ (List.mem_append_left _ (List.mem_append_left _ (List.mem_append_left _ (List.mem_append_left _ (List.mem_append_left _ (List.mem_append_right _ (h))))))))))) (List.mem_of_getElem? (i := 9) rfl) (fun _ h => h)
  refine poIX (P := fun PO PX => V G p l e _ s m args below meth c (MXQ G below args s _ _ (pI PO) PX) w 0 0 0 _ []) (fun PO PX hPO hPX => ?_)
  obtain ⟨w0, hw0⟩ : ∃ z, z = w := ⟨_, rfl⟩
  rw [← hw0] at hPO hPX
  have hF : Fr (fun t => t = 101 + 4 * a ∨ t = 102 + 4 * a ∨ t = 103 + 4 * a ∨ t = 0) w0 w := by rw [hw0]; exact Fr.rf
  obtain ⟨bt, ml, vk, b, vf, g1, gB, gx, gM⟩ := id hA
  obtain ⟨g11, g12, g13, g14, g15⟩ := id g1
  have gn0 := g13.rg
  have hSr := okC_srt hnw.2 hL
  refine v_aload_n C dX6_change_0 rfl ?_
  refine v_getf C g10 hb rfl dX6_change_1 ?_
  refine v_iload_n C dX6_change_4 rfl ?_
  refine v_iload_n C dX6_change_5 rfl ?_
  refine v_callVi C (q := (RX5, TX5, 2)) (As := [_, _]) (rest := []) (c_X5_hasElement hW hi he hA1) (cwV 2 hts gX6_change_X5_hasElement rfl rfl rfl (by decide +kernel) ⟨Nat.le_of_ble_eq_true rfl, Nat.le_of_ble_eq_true rfl⟩) (hW.obj.choose_spec) rfl rfl rfl (Nat.le_of_ble_eq_true rfl) dX6_change_6 (by dsimp only; omega) (by dsimp only; omega) (fun x_6 w hp => ?_)
  obtain ⟨hx_6, rfl⟩ := hp
  refine v_if_ne C (hx_6.r32) (tgt := 22) dX6_change_9 (by decide) (fun c_9 => ?_) (fun c_9 => ?_)
  · have hz := hx_6.nz c_9
    have hA9 := hA1 i9 hz.1.1 hz.1.2
    refine v_iload_n C dX6_change_22 rfl ?_
    refine v_if_lt C (⟨by omega, by omega⟩) (tgt := 32) dX6_change_23 (by decide) (fun c_23 => ?_) (fun c_23 => ?_)
    · exact v_thrA C hfl hR0 htab rfl (List.mem_of_getElem? (i := 3) rfl) (List.mem_of_getElem? (i := 4) rfl) (List.mem_of_getElem? (i := 2) rfl) (fun w9 h => List.mem_cons_of_mem _ (List.mem_append_left _ (List.mem_append_right _ (h)))) dX6_change_32 dX6_change_35 dX6_change_36 dX6_change_38 dX6_change_41 (Nat.le_of_ble_eq_true rfl) (Nat.le_of_ble_eq_true rfl) (by dsimp only; omega) (by dsimp only; omega) (by omega) (by omega) (hPX _ _ (Or.inr (⟨rfl, hw0.symm, ⟨hz.1.1, hz.1.2, hz.2.1, hz.2.2⟩, by omega⟩)))
    · refine v_iload_n C dX6_change_26 rfl ?_
      refine v_bipush C dX6_change_27 rfl ?_
      refine v_icmp_le C (⟨by omega, by omega⟩) (⟨by omega, by omega⟩) (tgt := 42) dX6_change_29 (by decide) (fun c_29 => ?_) (fun c_29 => ?_)
      · refine v_aload_n C dX6_change_42 rfl ?_
        refine v_getf C g37 hb rfl dX6_change_43 ?_
        refine v_ifnonnull C (tgt := 59) dX6_change_46 (by decide) ?_
        refine v_aload_n C dX6_change_59 rfl ?_
        refine v_getf C g37 hb rfl dX6_change_60 ?_
        refine v_iload_n C dX6_change_63 rfl ?_
        refine v_iload_n C dX6_change_64 rfl ?_
        refine v_iload_n C dX6_change_65 rfl ?_
        refine v_aload_n C dX6_change_66 rfl ?_
        refine v_getf C g26 hb rfl dX6_change_67 ?_
        refine v_iload_n C dX6_change_70 rfl ?_
        refine v_iload_n C dX6_change_71 rfl ?_
        refine v_callVi C (q := (RX4, TX4, 3)) (As := [_, _]) (rest := [_, _, _, _]) (c_X4_valueOf (wi := i9) (el := e9) g1 ⟨by omega, by omega⟩ ⟨by omega, by omega⟩) (cwV 2 hts gX6_change_X4_valueOf rfl rfl rfl (by decide +kernel) ⟨Nat.le_of_ble_eq_true rfl, Nat.le_of_ble_eq_true rfl⟩) (g11) rfl rfl rfl (Nat.le_of_ble_eq_true rfl) dX6_change_72 (by dsimp only; omega) (by dsimp only; omega) (fun x_72 w hp => ?_)
        obtain ⟨hv72, rfl⟩ := hp
        have hve : x_72 = sall (fun _ => 0) ML (64 * i9 + e9) := by
          rw [hv72, ← gx]
          by_cases g : 64 * i9 + e9 < vcA
          · rw [if_pos g, ext_in (by omega) g]
          · rw [if_neg g, ext_out (by omega)]
        have hvb := sall_bd hok (fun _ _ _ => ⟨by omega, by omega⟩) (64 * i9 + e9) (by omega) (by omega)
        rw [← hve] at hvb
        refine v_callVi C (q := (RX2, TX2, 4)) (As := [_, _, _, _]) (rest := []) (c_X2_put (wi := i9) (el := e9) (v := v9) (b0 := x_72) hMo hSr.1 ⟨by omega, by omega⟩ ⟨by omega, by omega⟩ (by omega) hv ⟨by omega, by omega⟩ (fun j x y => ⟨by have := hSr.2 j x y; omega, by have := hSr.2 j x y; omega⟩)) (cwV 4 hts gX6_change_X2_put rfl rfl rfl (by decide +kernel) ⟨Nat.le_of_ble_eq_true rfl, Nat.le_of_ble_eq_true rfl⟩) (hMo.obj.choose_spec) rfl rfl rfl (Nat.le_of_ble_eq_true rfl) dX6_change_75 (by dsimp only; omega) (by dsimp only; omega) (fun x_75 w hp => ?_)
        obtain ⟨n2, pw2, vl2, bf2, hM2, hput, hF9⟩ := hp
        rw [hve] at hput
        obtain ⟨u1, u2, u3, u4, u5, u6⟩ := put_list (nw := nw) (A1 := A1) hnw.2 hL ⟨by omega, by omega⟩ ⟨by omega, by omega⟩ (by omega) ⟨by omega, by omega⟩ (fun _ _ _ => rfl) hput
        have hb := hF9 _ _ _ (fun h9 => by have h8 : 1 = 101 + 4 * a ∨ 1 = 102 + 4 * a ∨ 1 = 103 + 4 * a ∨ 1 = 0 := h9; omega) hb
        have hW := hW.fr hF9 (fun h9 => by have h8 : 2 = 101 + 4 * a ∨ 2 = 102 + 4 * a ∨ 2 = 103 + 4 * a ∨ 2 = 0 := h9; omega) (fun h9 => by have h8 : 3 = 101 + 4 * a ∨ 3 = 102 + 4 * a ∨ 3 = 103 + 4 * a ∨ 3 = 0 := h9; omega)
        have g11 := hF9 _ _ _ (fun h9 => by have h8 : TA = 101 + 4 * a ∨ TA = 102 + 4 * a ∨ TA = 103 + 4 * a ∨ TA = 0 := h9; omega) g11
        have g12 := g12.fr hF9 (fun h9 => by have h8 : TA + 1 = 101 + 4 * a ∨ TA + 1 = 102 + 4 * a ∨ TA + 1 = 103 + 4 * a ∨ TA + 1 = 0 := h9; omega) (fun h9 => by have h8 : TA + 1 + 1 = 101 + 4 * a ∨ TA + 1 + 1 = 102 + 4 * a ∨ TA + 1 + 1 = 103 + 4 * a ∨ TA + 1 + 1 = 0 := h9; omega)
        have g13 := g13.fr hF9 (fun h9 => by have h8 : TA + 3 = 101 + 4 * a ∨ TA + 3 = 102 + 4 * a ∨ TA + 3 = 103 + 4 * a ∨ TA + 3 = 0 := h9; omega) (fun h9 => by have h8 : TA + 3 + 1 = 101 + 4 * a ∨ TA + 3 + 1 = 102 + 4 * a ∨ TA + 3 + 1 = 103 + 4 * a ∨ TA + 3 + 1 = 0 := h9; omega)
        have hF := hF.tr (hF9.mono (fun t h9 => by have h8 : t = 101 + 4 * a ∨ t = 102 + 4 * a ∨ t = 103 + 4 * a ∨ t = 0 := h9; show t = 101 + 4 * a ∨ t = 102 + 4 * a ∨ t = 103 + 4 * a ∨ t = 0; omega))
        refine v_x ?_
        exact v_zret C rfl (u5.r) dX6_change_78 (by omega) (by omega) (hPO _ _ ⟨⟨hz.1.1, hz.1.2, hz.2.1, hz.2.2⟩, ⟨by omega, by omega⟩, mkL n2 pw2 vl2, u1, by rw [mkL_len u2]; exact u3, u4, u5, by
              rw [mkL_len u2]
              exact hM2.cg (fun j a b => (mkL_p a b).1) (fun j a b => (mkL_p a b).2) (fun j a b => by rw [(mkL_p a b).1]; exact (u6 j a b).symm), hb, hF⟩)
      · exact v_thrA C hfl hR0 htab rfl (List.mem_of_getElem? (i := 3) rfl) (List.mem_of_getElem? (i := 4) rfl) (List.mem_of_getElem? (i := 2) rfl) (fun w9 h => List.mem_cons_of_mem _ (List.mem_append_left _ (List.mem_append_right _ (h)))) dX6_change_32 dX6_change_35 dX6_change_36 dX6_change_38 dX6_change_41 (Nat.le_of_ble_eq_true rfl) (Nat.le_of_ble_eq_true rfl) (by dsimp only; omega) (by dsimp only; omega) (by omega) (by omega) (hPX _ _ (Or.inr (⟨rfl, hw0.symm, ⟨hz.1.1, hz.1.2, hz.2.1, hz.2.2⟩, by omega⟩)))
  · exact v_thrI C hfl hR0 htab rfl (List.mem_of_getElem? (i := 1) rfl) (List.mem_of_getElem? (i := 2) rfl) (List.mem_of_getElem? (i := 1) rfl) (fun w9 h => List.mem_cons_of_mem _ (List.mem_append_left _ (List.mem_append_left _ (List.mem_append_right _ (h))))) dX6_change_12 dX6_change_15 dX6_change_16 dX6_change_18 dX6_change_21 (Nat.le_of_ble_eq_true rfl) (Nat.le_of_ble_eq_true rfl) (by dsimp only; omega) (by dsimp only; omega) (by omega) (by omega) (hPX _ _ (Or.inl ⟨rfl, hw0.symm, fun g => hx_6.z c_9 ⟨⟨g.1, g.2.1⟩, g.2.2⟩⟩))
set_option maxRecDepth 100000 in
set_option maxHeartbeats 400000 in
theorem c_X6_close_N {G : GG} {l : Launch} {w : Wd} {r : Nat} {wr tp ra rb : Nat} {q1 : Value} {mc9 ms9 : Nat} (hb : w r = some (1, .inr (9, [.ref wr, .ref tp, .ref ra, .ref rb, q1, .null]))) : MG G l yX6_close wsX6_close 16 640 (mc9) (ms9) [.ref r] w (pI (fun (x : Int) (w' : Wd) => x = -1 ∧ w' = w)) := by
  refine MG.of (cc := cX6_close) (nL := 2) (ret := (some .int)) (ll := [some (.ref r), none]) (by decide) rfl (Nat.le_of_ble_eq_true rfl) rfl ?_
  intro p e s m args below meth c C
  have hts := C.2.2.2.2.1
  have g37 : GetF G s m args 37 9 5 := getF_of C 9 5 (T := TX6) (N := 6) (Cn := RX6) (ref := "TraceBook") rfl (by decide) (fun _ h => List.mem_cons_of_mem _ (List.mem_append_left _ (List.mem_append_left _ (List.mem_append_left _ (List.mem_append_left _ (List.mem_append_left _ (List.mem_append_left _ (List.mem_append_right _ (h))))))))) (List.mem_of_getElem? (i := 3) rfl) (fun _ h => h)
  refine poI (P := fun PO => V G p l e _ s m args below meth c (MQW G below args s _ _ (pI PO)) w 0 0 0 _ []) (fun PO hPO => ?_)
  refine v_aload_n C dX6_close_0 rfl ?_
  refine v_getf C g37 hb rfl dX6_close_1 ?_
  refine v_ifnonnullN C dX6_close_4 ?_
  refine v_iconst C dX6_close_7 ?_
  exact v_iret C rfl dX6_close_8 (by omega) (by omega) (hPO _ _ ⟨rfl, rfl⟩)
set_option maxRecDepth 100000 in
set_option maxHeartbeats 400000 in
theorem c_X6_close_S {G : GG} {l : Launch} {w : Wd} {r : Nat} {wr tp ra rb : Nat} {q1 : Value} {TA a : Nat} {capA vcA capA2 nw ti sp : Int} {A1 : Int → Int} {ML : ML3} {OL : ML2} {MA : Int → Nat} (hb : w r = some (1, .inr (9, [.ref wr, .ref tp, .ref ra, .ref rb, q1, .ref a]))) (hMo : MomAt G w a ti sp (-1) OL.length (pwL OL) (vlL OL) (fun j => sall (fun _ => 0) ML (pwL OL j))) (hna : ∀ i : Int, 0 ≤ i → i < ML.length → MA i ≠ a) (hA : RowM G w TA ra capA vcA ML MA) (hok : okL nw A1 0 (-1) (fun _ => 0) ML) (hnw : 0 ≤ nw ∧ nw ≤ 200) (hTA : 6 < TA ∧ TA < 90) (ht : 0 ≤ ti ∧ ti < 1152921504606846976 ∧ 0 ≤ sp ∧ sp < 1152921504606846976) (hlt : OL ≠ [] → lasT 0 ML < ti ∨ (lasT 0 ML = ti ∧ lasS (-1) ML < sp)) (hL : okC nw A1 (-1) (sall (fun _ => 0) ML) OL) (hc : Cap capA ((encAll 0 (-1) (fun _ => 0) (addM ML ti sp OL)).length : Int) capA2) (hc2 : capA2 ≤ 1000000) (hfit : ((encAll 0 (-1) (fun _ => 0) (addM ML ti sp OL)).length : Int) ≤ 60000) (hn : (ML.length : Int) ≤ 100000) : MG G l yX6_close wsX6_close 16 640 (((capA2 - capA).toNat + 1 + (gvc vcA OL - vcA).toNat)) (((2 * (capA2 - capA)).toNat + ((ML.length : Int) + (ML.length : Int) / 2 + 10).toNat + (2 * (gvc vcA OL - vcA)).toNat)) [.ref r] w (pI (fun (x : Int) (w' : Wd) => x = OL.length ∧ ∃ MA2, w' r = some (1, .inr (9, [.ref wr, .ref tp, .ref ra, .ref rb, q1, .null])) ∧ RowM G w' TA ra capA2 (gvc vcA OL) (addM ML ti sp OL) MA2 ∧ (∃ q3 q4, w' a = some (100 + 4 * a, .inr (5, [.long (lI ti), .long (lI sp), q3, q4]))) ∧ Fr (fun t => t = 1 ∨ (TA ≤ t ∧ t ≤ TA + 5) ∨ t = 0 ∨ t = 100 + 4 * a) w w')) := by
  refine MG.of (cc := cX6_close) (nL := 2) (ret := (some .int)) (ll := [some (.ref r), none]) (by decide) rfl (Nat.le_of_ble_eq_true rfl) rfl ?_
  intro p e s m args below meth c C
  have hts := C.2.2.2.2.1
  have g37 : GetF G s m args 37 9 5 := getF_of C 9 5 (T := TX6) (N := 6) (Cn := RX6) (ref := "TraceBook") rfl (by decide) (fun _ h => List.mem_cons_of_mem _ (List.mem_append_left _ (List.mem_append_left _ (List.mem_append_left _ (List.mem_append_left _ (List.mem_append_left _ (List.mem_append_left _ (List.mem_append_right _ (h))))))))) (List.mem_of_getElem? (i := 3) rfl) (fun _ h => h)
  have g120 : GetN G s m args 120 5 2 := getN_of C 5 2 (T := TX2) (N := 4) (Cn := RX2) (ref := "TraceBook$Moment") rfl (by decide) (fun _ h => List.mem_cons_of_mem _ (List.mem_append_left _ (List.mem_append_left _ (List.mem_append_left _ (List.mem_append_left _ (List.mem_append_left _ (List.mem_append_right _ (h)))))))) (List.mem_of_getElem? (i := 3) rfl) (fun _ h => h)
  refine poI (P := fun PO => V G p l e _ s m args below meth c (MQW G below args s _ _ (pI PO)) w 0 0 0 _ []) (fun PO hPO => ?_)
  obtain ⟨lr, LL, hm1, hmL, hmC⟩ := id hMo
  have hmr := hmL.rg
  refine v_aload_n C dX6_close_0 rfl ?_
  refine v_getf C g37 hb rfl dX6_close_1 ?_
  refine v_ifnonnull C (tgt := 9) dX6_close_4 (by decide) ?_
  refine v_aload_n C dX6_close_9 rfl ?_
  refine v_getf C g37 hb rfl dX6_close_10 ?_
  refine v_getN C g120 hm1 rfl dX6_close_13 ?_
  refine v_callVi C (q := (RJx4a65c, TJx4a65c, 3)) (As := []) (rest := []) (c_Jx4a65c_size_8abf5 hmL) (cwV 0 hts gX6_close_Jx4a65c_size_8abf5 rfl rfl rfl (by decide +kernel) ⟨Nat.le_of_ble_eq_true rfl, Nat.le_of_ble_eq_true rfl⟩) (hmL.obj.choose_spec) rfl rfl rfl (Nat.le_of_ble_eq_true rfl) dX6_close_16 (by dsimp only; omega) (by dsimp only; omega) (fun x_16 w hp => ?_)
  obtain ⟨hsz9, rfl⟩ := hp
  rw [hsz9]
  refine v_istore_n C dX6_close_19 bsl_2_1 (by decide) rfl ?_
  refine v_aload_n C dX6_close_20 rfl ?_
  refine v_callVi C (q := (RX6, TX6, 6)) (As := []) (rest := []) (c_close_S hb hMo hna hA hok hnw hTA ht hlt hL hc hc2 hfit hn) (cwV 0 hts gX6_close_X6_closeOpenMoment rfl rfl rfl (by decide +kernel) ⟨Nat.le_of_ble_eq_true rfl, Nat.le_of_ble_eq_true rfl⟩) (hb) rfl rfl rfl (Nat.le_of_ble_eq_true rfl) dX6_close_21 (by dsimp only; omega) (by dsimp only; omega) (fun x_21 w hp => ?_)
  obtain ⟨hx21, MA2, hb, hA, hla2, -, hF9⟩ := hp
  refine v_if_ne C (⟨by omega, by omega⟩) (tgt := 37) dX6_close_24 (by decide) (fun c_24 => ?_) (fun c_24 => ?_)
  · refine v_iload_n C dX6_close_37 rfl ?_
    exact v_iret C rfl dX6_close_38 (by omega) (by omega) (hPO _ _ ⟨rfl, MA2, hb, hA, hla2, hF9⟩)
  · exact absurd c_24 (by omega)
