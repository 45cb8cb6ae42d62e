theorem bsl_9_8 {x0 x1 x2 x3 x4 x5 x6 x7 x8 : Option Value} {v : Value} : stL [x0, x1, x2, x3, x4, x5, x6, x7, x8] 8 v = [x0, x1, x2, x3, x4, x5, x6, x7, some v] := rfl
theorem MX.imp {G : GG} {l : Launch} {y : MethodName} {ws : List Cond} {F L mc ms : Nat} {av : List Value} {w : Wd} {post post2 : Option Value → Wd → Prop} {px px2 : String → Wd → Prop} (h : MX G l y ws F L mc ms av w post px) (hi : ∀ v w', post v w' → post2 v w') (hx : ∀ E w', px E w' → px2 E w') : MX G l y ws F L mc ms av w post2 px2 := fun p e ha hc hk s m args below hf hfit hP hT => by
  obtain ⟨n, o, h1, h2, h3, h4⟩ := h p e ha hc hk s m args below hf hfit hP hT
  refine ⟨n, o, h1, h2, h3, ?_⟩
  rcases h4 with ⟨⟨v, w', e1, hp, hR, hK⟩, hL⟩ | ⟨q, e1, E, ce, L, ⟨w', hp, hR⟩, r⟩
  · exact Or.inl ⟨⟨v, w', e1, hi _ _ hp, hR, hK⟩, hL⟩
  · exact Or.inr ⟨q, e1, E, ce, L, ⟨w', hx _ _ hp, hR⟩, r⟩
theorem c_wire {G : GG} {l : Launch} {w : Wd} {r : Nat} {wr tp ra rb : Nat} {la : Option Nat} {q2 : Value} {nw : Int} {A1 : Int → Int} {i9 : Int} (hfl : l.stackTraces = false) (hb : w r = some (1, .inr (9, [.ref wr, .ref tp, .ref ra, .ref rb, va_rf la, q2]))) (hW : WiresAt G w wr nw A1) (hi : R32 i9) : MX G l yX6_wire wsX6_wire 16 640 (1) (6) [.ref r, .int (iI i9)] w (pI (fun (x : Int) (w' : Wd) => (1 ≤ i9 ∧ i9 ≤ 64) ∧ nw < 200 ∧ la = none ∧ x = nw ∧ WiresAt G w' wr (nw + 1) (upI A1 nw i9) ∧ w' r = some (1, .inr (9, [.ref wr, .ref tp, .ref ra, .ref rb, va_rf la, q2])) ∧ Fr (fun t => t = 2 ∨ t = 3) w w')) (fun (E : String) (w9 : Wd) => (E = "java/lang/IllegalArgumentException" ∧ w9 = w ∧ ¬ (1 ≤ i9 ∧ i9 ≤ 64)) ∨ (E = "java/lang/IllegalStateException" ∧ w9 = w ∧ (1 ≤ i9 ∧ i9 ≤ 64) ∧ (nw = 200 ∨ la ≠ none))) := by
  cases la with
  | none => exact (c_X6_wire_N hfl hb hW hi).imp (fun v w' h => by
      obtain ⟨x, hv, h1, h2, h3⟩ := h
      exact ⟨x, hv, h1, h2, rfl, h3⟩) (fun E w' h => by
      rcases h with ⟨h1, h2, h3⟩ | ⟨h1, h2, h3, h4⟩
      · exact Or.inl ⟨h1, h2, h3⟩
      · exact Or.inr ⟨h1, h2, h3, Or.inl h4⟩)
  | some a => exact (c_X6_wire_S (a := a) hfl hb hW hi).imp (fun v w' h => by
      obtain ⟨x, hv, h1⟩ := h
      exact h1.elim) (fun E w' h => by
      rcases h with ⟨h1, h2, h3⟩ | ⟨h1, h2, h3⟩
      · exact Or.inl ⟨h1, h2, h3⟩
      · exact Or.inr ⟨h1, h2, h3, Or.inr (fun q => nomatch q)⟩)
theorem c_change {G : GG} {l : Launch} {w : Wd} {r : Nat} {wr tp ra rb : Nat} {q1 : Value} {op : Option Nat} {TA a : Nat} {capA vcA ti sp : Int} {ML : ML3} {OL : ML2} {MA : Int → Nat} {nw : Int} {A1 : Int → Int} {i9 e9 v9 : Int} {mc9 ms9 : Nat} (hfl : l.stackTraces = false) (hb : w r = some (1, .inr (9, [.ref wr, .ref tp, .ref ra, .ref rb, q1, va_rf op]))) (hW : WiresAt G w wr nw A1) (hA1 : ∀ i, 0 ≤ i → i < nw → 1 ≤ A1 i ∧ A1 i ≤ 64) (hi : R32 i9) (he : R32 e9) (hv : R32 v9) (hA : RowM G w TA ra capA vcA ML MA) (hok : okL nw A1 0 (-1) (fun _ => 0) ML) (hnw : 0 ≤ nw ∧ nw ≤ 200) (hOp : OpenAt G w ML MA op a ti sp OL) (hL : okC nw A1 (-1) (sall (fun _ => 0) ML) OL) (hTA : 6 < TA ∧ TA < 90) (hn : (OL.length : Int) ≤ 100000) (hcs : 2 ≤ mc9 ∧ OL.length + OL.length / 2 + 14 ≤ ms9) : MX G l yX6_change wsX6_change 16 640 (mc9) (ms9) [.ref r, .int (iI i9), .int (iI e9), .int (iI v9)] w (pI (fun (x : Int) (w' : Wd) => op = some a ∧ (0 ≤ i9 ∧ i9 < nw ∧ 0 ≤ e9 ∧ e9 < A1 i9) ∧ (0 ≤ v9 ∧ v9 ≤ 8) ∧ ∃ OL2 : ML2, okC nw A1 (-1) (sall (fun _ => 0) ML) OL2 ∧ (OL2.length : Int) ≤ OL.length + 1 ∧ sfold (sall (fun _ => 0) ML) OL2 = upI (sfold (sall (fun _ => 0) ML) OL) (64 * i9 + e9) v9 ∧ BP x (¬ sfold (sall (fun _ => 0) ML) OL (64 * i9 + e9) = v9) ∧ MomAt G w' a ti sp (-1) OL2.length (pwL OL2) (vlL OL2) (fun j => sall (fun _ => 0) ML (pwL OL2 j)) ∧ w' r = some (1, .inr (9, [.ref wr, .ref tp, .ref ra, .ref rb, q1, va_rf op])) ∧ Fr (fun t => t = 101 + 4 * a ∨ t = 102 + 4 * a ∨ t = 103 + 4 * a ∨ t = 0) w w')) (fun (E : String) (w9 : Wd) => (E = "java/lang/IndexOutOfBoundsException" ∧ w9 = w ∧ ¬ (0 ≤ i9 ∧ i9 < nw ∧ 0 ≤ e9 ∧ e9 < A1 i9)) ∨ (E = "java/lang/IllegalArgumentException" ∧ w9 = w ∧ (0 ≤ i9 ∧ i9 < nw ∧ 0 ≤ e9 ∧ e9 < A1 i9) ∧ ¬ (0 ≤ v9 ∧ v9 ≤ 8)) ∨ (E = "java/lang/IllegalStateException" ∧ w9 = w ∧ (0 ≤ i9 ∧ i9 < nw ∧ 0 ≤ e9 ∧ e9 < A1 i9) ∧ (0 ≤ v9 ∧ v9 ≤ 8) ∧ op = none)) := by
  rcases hOp with ⟨rfl, rfl⟩ | ⟨rfl, hMo, hna⟩
  · exact (c_X6_change_N hfl hb hW hA1 hi he hv ⟨by omega, by omega⟩).imp (fun v w' h => by
      obtain ⟨x, hv, h1⟩ := h
      exact h1.elim) (fun E w' h => by
      rcases h with h | h | ⟨h1, h2, h3, h4⟩
      · exact Or.inl h
      · exact Or.inr (Or.inl h)
      · exact Or.inr (Or.inr ⟨h1, h2, h3, h4, rfl⟩))
  · exact (c_X6_change_S hfl hb hW hA1 hi he hv hA hok hnw hMo hL hTA hn hcs).imp (fun v w' h => by
      obtain ⟨x, hv, h1⟩ := h
      exact ⟨x, hv, rfl, h1⟩) (fun E w' h => by
      rcases h with h | h
      · exact Or.inl h
      · exact Or.inr (Or.inl h))
theorem c_closeU {G : GG} {l : Launch} {w : Wd} {r : Nat} {wr tp ra rb : Nat} {q1 : Value} {op : Option Nat} {TA a : Nat} {capA vcA capA2 nw ti sp : Int} {A1 : Int → Int} {ML : ML3} {OL : ML2} {MA : Int → Nat} (hb : w r = some (1, .inr (9, [.ref wr, .ref tp, .ref ra, .ref rb, q1, va_rf op]))) (hOp : OpenAt G w ML MA op a ti sp OL) (hA : RowM G w TA ra capA vcA ML MA) (hok : okL nw A1 0 (-1) (fun _ => 0) ML) (hnw : 0 ≤ nw ∧ nw ≤ 200) (hTA : 6 < TA ∧ TA < 90) (ht : 0 ≤ ti ∧ ti < 1152921504606846976 ∧ 0 ≤ sp ∧ sp < 1152921504606846976) (hlt : OL ≠ [] → lasT 0 ML < ti ∨ (lasT 0 ML = ti ∧ lasS (-1) ML < sp)) (hL : okC nw A1 (-1) (sall (fun _ => 0) ML) OL) (hc : Cap capA ((encAll 0 (-1) (fun _ => 0) (addM ML ti sp OL)).length : Int) capA2) (hc2 : capA2 ≤ 1000000) (hfit : ((encAll 0 (-1) (fun _ => 0) (addM ML ti sp OL)).length : Int) ≤ 60000) (hn : (ML.length : Int) ≤ 100000) : MG G l yX6_close wsX6_close 16 640 (((capA2 - capA).toNat + 1 + (gvc vcA OL - vcA).toNat)) (((2 * (capA2 - capA)).toNat + ((ML.length : Int) + (ML.length : Int) / 2 + 10).toNat + (2 * (gvc vcA OL - vcA)).toNat)) [.ref r] w (pI (fun (x : Int) (w' : Wd) => (op = none ∧ x = -1 ∧ w' = w) ∨ (op = some a ∧ x = OL.length ∧ ∃ MA2, w' r = some (1, .inr (9, [.ref wr, .ref tp, .ref ra, .ref rb, q1, .null])) ∧ RowM G w' TA ra capA2 (gvc vcA OL) (addM ML ti sp OL) MA2 ∧ (∃ q3 q4, w' a = some (100 + 4 * a, .inr (5, [.long (lI ti), .long (lI sp), q3, q4]))) ∧ Fr (fun t => t = 1 ∨ (TA ≤ t ∧ t ≤ TA + 5) ∨ t = 0 ∨ t = 100 + 4 * a) w w'))) := by
  rcases hOp with ⟨rfl, rfl⟩ | ⟨rfl, hMo, hna⟩
  · exact (c_X6_close_N hb).imp fun v w' h => by
      obtain ⟨x, hv, h1⟩ := h
      exact ⟨x, hv, Or.inl ⟨rfl, h1⟩⟩
  · exact (c_X6_close_S hb hMo hna hA hok hnw hTA ht hlt hL hc hc2 hfit hn).imp fun v w' h => by
      obtain ⟨x, hv, h1⟩ := h
      exact ⟨x, hv, Or.inr ⟨rfl, h1⟩⟩
theorem c_open {G : GG} {l : Launch} {w : Wd} {r : Nat} {wr tp ra rb : Nat} {la op : Option Nat} {TA a : Nat} {capA vcA capA2 nw ti sp : Int} {A1 : Int → Int} {ML : ML3} {OL : ML2} {MA : Int → Nat} {t9 s9 : Int} {mc9 ms9 : Nat} (hfl : l.stackTraces = false) (hb : w r = some (1, .inr (9, [.ref wr, .ref tp, .ref ra, .ref rb, va_rf la, va_rf op]))) (hla : LatAt w la a ti sp) (hlo : la = none → op = none) (hOp : OpenAt G w ML MA op a ti sp OL) (hA : RowM G w TA ra capA vcA ML MA) (hok : okL nw A1 0 (-1) (fun _ => 0) ML) (hnw : 0 ≤ nw ∧ nw ≤ 200) (hTA : 6 < TA ∧ TA < 90) (ht : 0 ≤ ti ∧ ti < 1152921504606846976 ∧ 0 ≤ sp ∧ sp < 1152921504606846976) (hlt : OL ≠ [] → lasT 0 ML < ti ∨ (lasT 0 ML = ti ∧ lasS (-1) ML < sp)) (hL : okC nw A1 (-1) (sall (fun _ => 0) ML) OL) (hc : Cap capA ((encAll 0 (-1) (fun _ => 0) (addM ML ti sp OL)).length : Int) capA2) (hc2 : capA2 ≤ 1000000) (hfit : ((encAll 0 (-1) (fun _ => 0) (addM ML ti sp OL)).length : Int) ≤ 60000) (hn : (ML.length : Int) ≤ 100000) (ht9 : R64 t9) (hs9 : R64 s9) (hcs : 3 ≤ mc9 ∧ 13 ≤ ms9 ∧ ((((0 ≤ t9 ∧ t9 < 1152921504606846976 ∧ 0 ≤ s9 ∧ s9 < 1152921504606846976)) ∧ (la = none ∨ ti < t9 ∨ (t9 = ti ∧ sp < s9))) → 3 + ((capA2 - capA).toNat + 1 + (gvc vcA OL - vcA).toNat) ≤ mc9 ∧ 13 + ((2 * (capA2 - capA)).toNat + ((ML.length : Int) + (ML.length : Int) / 2 + 10).toNat + (2 * (gvc vcA OL - vcA)).toNat) ≤ ms9)) : MX G l yX6_open wsX6_open 16 640 mc9 ms9 [.ref r, .long (lI t9), .long (lI s9)] w (pV (fun (w' : Wd) => (((0 ≤ t9 ∧ t9 < 1152921504606846976 ∧ 0 ≤ s9 ∧ s9 < 1152921504606846976)) ∧ (la = none ∨ ti < t9 ∨ (t9 = ti ∧ sp < s9))) ∧ ∃ (a9 : Nat) (MA2 : Int → Nat), w a9 = none ∧ w' r = some (1, .inr (9, [.ref wr, .ref tp, .ref ra, .ref rb, .ref a9, .ref a9])) ∧ MomAt G w' a9 t9 s9 (-1) ([] : ML2).length (pwL []) (vlL []) (fun j => sall (fun _ => 0) (addM ML ti sp OL) (pwL [] j)) ∧ (∀ i : Int, 0 ≤ i → i < (addM ML ti sp OL).length → MA2 i ≠ a9) ∧ RowM G w' TA ra capA2 (gvc vcA OL) (addM ML ti sp OL) MA2 ∧ Fr (fun t => t = 1 ∨ t = 0 ∨ (TA ≤ t ∧ t ≤ TA + 5) ∨ 100 ≤ t) w w')) (fun (E : String) (w9 : Wd) => E = "java/lang/IllegalArgumentException" ∧ ¬ (((0 ≤ t9 ∧ t9 < 1152921504606846976 ∧ 0 ≤ s9 ∧ s9 < 1152921504606846976)) ∧ (la = none ∨ ti < t9 ∨ (t9 = ti ∧ sp < s9))) ∧ (w9 = w ∨ (∃ a9 : Nat, w a9 = none ∧ Fr (fun t => t = 0 ∨ (100 + 4 * a9 ≤ t ∧ t < 104 + 4 * a9)) w w9))) := by
  have hcg := hA.cap
  rcases hla with rfl | ⟨rfl, q3, q4, hq⟩
  · have h0 := hlo rfl
    subst h0
    have hOL : OL = [] := by
      rcases hOp with ⟨-, h⟩ | ⟨h, -⟩
      · exact h
      · cases h
    subst hOL
    rw [addM_0] at hc ⊢
    have hcx := hc.stay (by omega) (by omega)
    subst hcx
    exact (c_X6_open_N hfl hb hA hTA ht9 hs9 ⟨hcs.1, hcs.2.1⟩).imp (fun v w' h => by
      obtain ⟨hv, h1, h2⟩ := h
      exact ⟨hv, ⟨h1, Or.inl rfl⟩, h2⟩) (fun E w' h => by
      obtain ⟨h1, h2, h3⟩ := h
      exact ⟨h1, fun g => h2 g.1, h3⟩)
  · exact (c_X6_open_S hfl hb hq hOp hA hok hnw hTA ht hlt hL hc hc2 hfit hn ht9 hs9 ⟨hcs.1, hcs.2.1, fun g => hcs.2.2 ⟨g.1, Or.inr g.2⟩⟩).imp (fun v w' h => by
      obtain ⟨hv, ⟨h1, h9⟩, h2⟩ := h
      exact ⟨hv, ⟨h1, Or.inr h9⟩, h2⟩) (fun E w' h => by
      obtain ⟨h1, h2, h3⟩ := h
      refine ⟨h1, fun g => h2 ⟨g.1, ?_⟩, h3⟩
      rcases g.2 with g | g
      · cases g
      · exact g)
def nrm (x : Int) : Int := (iI x).toInt
theorem nrm_e (x : Int) : iI x = iI (nrm x) := iI_of _
theorem nrm_r (x : Int) : R32 (nrm x) := R32_of _
def nrmL (x : Int) : Int := (lI x).toInt
theorem nrmL_e (x : Int) : lI x = lI (nrmL x) := lI_of _
theorem nrmL_r (x : Int) : R64 (nrmL x) := R64_of _
set_option maxRecDepth 100000 in
set_option maxHeartbeats 400000 in
theorem c_L_wire {G : GG} {l : Launch} {w : Wd} {r o : Nat} {f : Int → Int} {wr tp ra rb : Nat} {la : Option Nat} {q2 : Value} {nw : Int} {A1 : Int → Int} {i9 : Int} (hfl : l.stackTraces = false) (hb : w r = some (1, .inr (9, [.ref wr, .ref tp, .ref ra, .ref rb, va_rf la, q2]))) (hW : WiresAt G w wr nw A1) (hi : R32 i9) (ho : w o = some (7, .inl (gJ G, aJ 1 f))) : MG G l yL_wire wsL_wire 18 720 (1) (6) [.ref r, .int (iI i9), .ref o] w (pI (fun (x : Int) (w' : Wd) => (x = 1 ∧ w' = w ∧ ¬ (1 ≤ i9 ∧ i9 ≤ 64)) ∨ (x = 2 ∧ w' = w ∧ (1 ≤ i9 ∧ i9 ≤ 64) ∧ (nw = 200 ∨ la ≠ none)) ∨ (x = 0 ∧ (1 ≤ i9 ∧ i9 ≤ 64) ∧ nw < 200 ∧ la = none ∧ WiresAt G w' wr (nw + 1) (upI A1 nw i9) ∧ w' r = some (1, .inr (9, [.ref wr, .ref tp, .ref ra, .ref rb, va_rf la, q2])) ∧ w' o = some (7, .inl (gJ G, aJ 1 (upI f 0 (nrm nw)))) ∧ Fr (fun t => t = 2 ∨ t = 3 ∨ t = 7) w w'))) := by
  refine MG.ofH (cc := cL_wire) (nL := 4) (ret := (some .int)) (hh := [(0, 9, 12, 13), (0, 9, 15, 15)]) (ll := [some (.ref r), some (.int (iI i9)), some (.ref o), none]) (by decide) rfl (Nat.le_of_ble_eq_true rfl) rfl ?_
  intro p e s m args below meth c C htab
  have hts := C.2.2.2.2.1
  refine poI (P := fun PO => V G p l e _ s m args below meth c (MQW G below args s _ _ (pI PO)) w 0 0 0 _ []) (fun PO hPO => ?_)
  refine v_aload_n C dL_wire_0 rfl ?_
  refine v_iconst C dL_wire_1 ?_
  refine v_aload_n C dL_wire_2 rfl ?_
  refine v_iload_n C dL_wire_3 rfl ?_
  refine v_callXi C (q := (RX6, TX6, 6)) (As := [_]) (rest := [_, _]) (c_wire hfl hb hW hi) (cwV 1 hts gL_wire_X6_wire rfl rfl rfl (by decide +kernel) ⟨Nat.le_of_ble_eq_true rfl, Nat.le_of_ble_eq_true rfl⟩) (hb) rfl rfl rfl (Nat.le_of_ble_eq_true rfl) dL_wire_4 (by dsimp only; omega) (by dsimp only; omega) (fun E w hx => ?_) (fun x_4 w hp => ?_)
  · rcases hx with ⟨rfl, hx⟩ | ⟨rfl, hx⟩
    · obtain ⟨rfl, hx⟩ := hx
      refine v_catch0 C htab ⟨by omega, by omega⟩ (by decide) (List.mem_of_getElem? (i := 1) rfl) (List.mem_of_getElem? (i := 2) rfl) (fun q9 => ?_)
      refine v_astore_n C dL_wire_12 bsl_4_3 (by decide) rfl ?_
      refine v_iconst C dL_wire_13 ?_
      exact v_iret C rfl dL_wire_14 (by omega) (by omega) (hPO _ _ (Or.inl ⟨rfl, rfl, hx⟩))
    · obtain ⟨rfl, hx⟩ := hx
      refine v_catch1 C htab ⟨by omega, by omega⟩ (by decide) (List.mem_of_getElem? (i := 2) rfl) (List.mem_of_getElem? (i := 3) rfl) (by decide) (List.mem_of_getElem? (i := 1) rfl) (List.mem_of_getElem? (i := 0) rfl) (fun q9 => ?_)
      refine v_astore_n C dL_wire_15 bsl_4_3 (by decide) rfl ?_
      refine v_iconst C dL_wire_16 ?_
      exact v_iret C rfl dL_wire_17 (by omega) (by omega) (hPO _ _ (Or.inr (Or.inl ⟨rfl, rfl, hx⟩)))
  obtain ⟨u1, u2, u3, u4, hW, hb, hF9⟩ := hp
  have ho := hF9 _ _ _ (fun h9 => by have h8 : 7 = 2 ∨ 7 = 3 := h9; omega) ho
  have hFa := hF9
  rw [u4, nrm_e nw]
  refine v_i2l C (nrm_r _) dL_wire_7 ?_
  refine v_last C ho (⟨by omega, by omega⟩) (by omega) (by omega) dL_wire_8 ?_
  refine v_upd ho (fun w ho hF9 hE9 => ?_)
  have hb := hF9 _ _ _ (fun h9 => by have h8 : 1 = 7 := h9; omega) hb
  have hW := hW.fr hF9 (fun h9 => by have h8 : 2 = 7 := h9; omega) (fun h9 => by have h8 : 3 = 7 := h9; omega)
  refine v_goto C (tgt := 18) dL_wire_9 (by decide) ?_
  refine v_iconst C dL_wire_18 ?_
  exact v_iret C rfl dL_wire_19 (by omega) (by omega) (hPO _ _ (Or.inr (Or.inr ⟨rfl, u1, u2, u3, hW, hb, ho, (hFa.mono (fun t h => by omega)).tr (hF9.mono (fun t h => by omega))⟩)))
set_option maxRecDepth 100000 in
set_option maxHeartbeats 400000 in
theorem c_L_width {G : GG} {l : Launch} {w : Wd} {r o : Nat} {f : Int → Int} {wr tp ra rb : Nat} {q1 q2 : Value} {nw : Int} {A1 : Int → Int} {i9 : Int} (hfl : l.stackTraces = false) (hb : w r = some (1, .inr (9, [.ref wr, .ref tp, .ref ra, .ref rb, q1, q2]))) (hW : WiresAt G w wr nw A1) (hi : R32 i9) (ho : w o = some (7, .inl (gJ G, aJ 1 f))) : MG G l yL_width wsL_width 18 720 (1) (6) [.ref r, .int (iI i9), .ref o] w (pI (fun (x : Int) (w' : Wd) => (x = 1 ∧ w' = w ∧ ¬ (0 ≤ i9 ∧ i9 < nw)) ∨ (x = 0 ∧ (0 ≤ i9 ∧ i9 < nw) ∧ (∃ y9, y9 = A1 i9 ∧ w' o = some (7, .inl (gJ G, aJ 1 (upI f 0 (nrm y9))))) ∧ Fr (fun t => t = 7) w w'))) := by
  refine MG.ofH (cc := cL_width) (nL := 4) (ret := (some .int)) (hh := [(0, 9, 12, 20)]) (ll := [some (.ref r), some (.int (iI i9)), some (.ref o), none]) (by decide) rfl (Nat.le_of_ble_eq_true rfl) rfl ?_
  intro p e s m args below meth c C htab
  have hts := C.2.2.2.2.1
  refine poI (P := fun PO => V G p l e _ s m args below meth c (MQW G below args s _ _ (pI PO)) w 0 0 0 _ []) (fun PO hPO => ?_)
  refine v_aload_n C dL_width_0 rfl ?_
  refine v_iconst C dL_width_1 ?_
  refine v_aload_n C dL_width_2 rfl ?_
  refine v_iload_n C dL_width_3 rfl ?_
  refine v_callXi C (q := (RX6, TX6, 6)) (As := [_]) (rest := [_, _]) (c_X6_width hfl hb hW hi) (cwV 1 hts gL_width_X6_width rfl rfl rfl (by decide +kernel) ⟨Nat.le_of_ble_eq_true rfl, Nat.le_of_ble_eq_true rfl⟩) (hb) rfl rfl rfl (Nat.le_of_ble_eq_true rfl) dL_width_4 (by dsimp only; omega) (by dsimp only; omega) (fun E w hx => ?_) (fun x_4 w hp => ?_)
  · obtain ⟨rfl, hx⟩ := hx
    obtain ⟨rfl, hx⟩ := hx
    refine v_catch0 C htab ⟨by omega, by omega⟩ (by decide) (List.mem_of_getElem? (i := 1) rfl) (List.mem_of_getElem? (i := 4) rfl) (fun q9 => ?_)
    refine v_astore_n C dL_width_12 bsl_4_3 (by decide) rfl ?_
    refine v_iconst C dL_width_13 ?_
    exact v_iret C rfl dL_width_14 (by omega) (by omega) (hPO _ _ (Or.inl ⟨rfl, rfl, hx⟩))
  obtain ⟨u1, u2, rfl⟩ := hp
  rw [nrm_e x_4]
  refine v_i2l C (nrm_r _) dL_width_7 ?_
  refine v_last C ho (⟨by omega, by omega⟩) (by omega) (by omega) dL_width_8 ?_
  refine v_upd ho (fun w ho hF9 hE9 => ?_)
  have hb := hF9 _ _ _ (fun h9 => by have h8 : 1 = 7 := h9; omega) hb
  refine v_goto C (tgt := 15) dL_width_9 (by decide) ?_
  refine v_iconst C dL_width_15 ?_
  exact v_iret C rfl dL_width_16 (by omega) (by omega) (hPO _ _ (Or.inr (⟨rfl, u2, ⟨_, u1, ho⟩, hF9⟩)))
set_option maxRecDepth 100000 in
set_option maxHeartbeats 400000 in
theorem c_L_moment {G : GG} {l : Launch} {w : Wd} {r o : Nat} {f : Int → Int} {wr tp ra rb : Nat} {q1 q2 : Value} {TA : Nat} {capA vcA : Int} {ML : ML3} {MA : Int → Nat} {i9 e9 : Int} (hfl : l.stackTraces = false) (hb : w r = some (1, .inr (9, [.ref wr, .ref tp, .ref ra, .ref rb, q1, q2]))) (hA : RowM G w TA ra capA vcA ML MA) (hi : R32 i9) (he : R32 e9) (ho : w o = some (7, .inl (gJ G, aJ 1 f))) : MG G l yL_moment wsL_moment 18 720 (1) (6) [.ref r, .int (iI i9), .int (iI e9), .ref o] w (pI (fun (x : Int) (w' : Wd) => (x = 1 ∧ w' = w ∧ ¬ (0 ≤ i9 ∧ i9 < (ML.length : Int))) ∨ (x = 2 ∧ w' = w ∧ (0 ≤ i9 ∧ i9 < (ML.length : Int)) ∧ ¬ (0 ≤ e9 ∧ e9 ≤ 3)) ∨ (x = 0 ∧ (0 ≤ i9 ∧ i9 < (ML.length : Int)) ∧ (∃ y9, ((e9 = 0 ∧ y9 = (mI ML i9).1) ∨ (e9 = 1 ∧ y9 = (mI ML i9).2.1) ∨ (e9 = 2 ∧ y9 = ((mI ML i9).2.2.length : Int)) ∨ (e9 = 3 ∧ y9 = plF ML i9)) ∧ w' o = some (7, .inl (gJ G, aJ 1 (upI f 0 (nrmL y9))))) ∧ Fr (fun t => t = 7) w w'))) := by
  refine MG.ofH (cc := cL_moment) (nL := 5) (ret := (some .int)) (hh := [(0, 9, 12, 20), (0, 9, 16, 13)]) (ll := [some (.ref r), some (.int (iI i9)), some (.int (iI e9)), some (.ref o), none]) (by decide) rfl (Nat.le_of_ble_eq_true rfl) rfl ?_
  intro p e s m args below meth c C htab
  have hts := C.2.2.2.2.1
  refine poI (P := fun PO => V G p l e _ s m args below meth c (MQW G below args s _ _ (pI PO)) w 0 0 0 _ []) (fun PO hPO => ?_)
  refine v_aload_n C dL_moment_0 rfl ?_
  refine v_iconst C dL_moment_1 ?_
  refine v_aload_n C dL_moment_2 rfl ?_
  refine v_iload_n C dL_moment_3 rfl ?_
  refine v_iload_n C dL_moment_4 rfl ?_
  refine v_callXl C (q := (RX6, TX6, 6)) (As := [_, _]) (rest := [_, _]) (c_X6_moment hfl hb hA hi he) (cwV 2 hts gL_moment_X6_moment rfl rfl rfl (by decide +kernel) ⟨Nat.le_of_ble_eq_true rfl, Nat.le_of_ble_eq_true rfl⟩) (hb) rfl rfl rfl (Nat.le_of_ble_eq_true rfl) dL_moment_5 (by dsimp only; omega) (by dsimp only; omega) (fun E w hx => ?_) (fun x_5 w hp => ?_)
  · rcases hx with ⟨rfl, hx⟩ | ⟨rfl, hx⟩
    · obtain ⟨rfl, hx⟩ := hx
      refine v_catch0 C htab ⟨by omega, by omega⟩ (by decide) (List.mem_of_getElem? (i := 1) rfl) (List.mem_of_getElem? (i := 4) rfl) (fun q9 => ?_)
      refine v_astore C dL_moment_12 bsl_5_4 (by decide) rfl ?_
      refine v_iconst C dL_moment_14 ?_
      exact v_iret C rfl dL_moment_15 (by omega) (by omega) (hPO _ _ (Or.inl ⟨rfl, rfl, hx⟩))
    · obtain ⟨rfl, hx⟩ := hx
      refine v_catch1 C htab ⟨by omega, by omega⟩ (by decide) (List.mem_of_getElem? (i := 2) rfl) (List.mem_of_getElem? (i := 2) rfl) (by decide) (List.mem_of_getElem? (i := 1) rfl) (List.mem_of_getElem? (i := 4) rfl) (fun q9 => ?_)
      refine v_astore C dL_moment_16 bsl_5_4 (by decide) rfl ?_
      refine v_iconst C dL_moment_18 ?_
      exact v_iret C rfl dL_moment_19 (by omega) (by omega) (hPO _ _ (Or.inr (Or.inl ⟨rfl, rfl, hx⟩)))
  obtain ⟨u1, u2, rfl⟩ := hp
  rw [nrmL_e x_5]
  refine v_last C ho (⟨by omega, by omega⟩) (by omega) (by omega) dL_moment_8 ?_
  refine v_upd ho (fun w ho hF9 hE9 => ?_)
  have hb := hF9 _ _ _ (fun h9 => by have h8 : 1 = 7 := h9; omega) hb
  refine v_goto C (tgt := 20) dL_moment_9 (by decide) ?_
  refine v_iconst C dL_moment_20 ?_
  exact v_iret C rfl dL_moment_21 (by omega) (by omega) (hPO _ _ (Or.inr (Or.inr (⟨rfl, u1, ⟨_, u2, ho⟩, hF9⟩))))
set_option maxRecDepth 100000 in
set_option maxHeartbeats 400000 in
theorem c_L_changed {G : GG} {l : Launch} {w : Wd} {r o : Nat} {f : Int → Int} {wr tp ra rb : Nat} {q1 q2 : Value} {TA : Nat} {capA vcA : Int} {ML : ML3} {MA : Int → Nat} {i9 e9 a9 : Int} (hfl : l.stackTraces = false) (hb : w r = some (1, .inr (9, [.ref wr, .ref tp, .ref ra, .ref rb, q1, q2]))) (hA : RowM G w TA ra capA vcA ML MA) (hi : R32 i9) (he : R32 e9) (ha : R32 a9) (ho : w o = some (7, .inl (gJ G, aJ 1 f))) : MG G l yL_changed wsL_changed 18 720 (1) (6) [.ref r, .int (iI i9), .int (iI e9), .int (iI a9), .ref o] w (pI (fun (x : Int) (w' : Wd) => (x = 1 ∧ w' = w ∧ ¬ ((0 ≤ i9 ∧ i9 < (ML.length : Int)) ∧ (0 ≤ e9 ∧ e9 < ((mI ML i9).2.2.length : Int)))) ∨ (x = 2 ∧ w' = w ∧ ((0 ≤ i9 ∧ i9 < (ML.length : Int)) ∧ (0 ≤ e9 ∧ e9 < ((mI ML i9).2.2.length : Int))) ∧ ¬ (0 ≤ a9 ∧ a9 ≤ 3)) ∨ (x = 0 ∧ ((0 ≤ i9 ∧ i9 < (ML.length : Int)) ∧ (0 ≤ e9 ∧ e9 < ((mI ML i9).2.2.length : Int))) ∧ (∃ y9, ((a9 = 0 ∧ y9 = pwL (mI ML i9).2.2 e9 / 64) ∨ (a9 = 1 ∧ y9 = pwL (mI ML i9).2.2 e9 % 64) ∨ (a9 = 2 ∧ y9 = vlL (mI ML i9).2.2 e9) ∨ (a9 = 3 ∧ y9 = bfF ML i9 e9)) ∧ w' o = some (7, .inl (gJ G, aJ 1 (upI f 0 (nrm y9))))) ∧ Fr (fun t => t = 7) w w'))) := by
  refine MG.ofH (cc := cL_changed) (nL := 6) (ret := (some .int)) (hh := [(0, 12, 15, 20), (0, 12, 19, 13)]) (ll := [some (.ref r), some (.int (iI i9)), some (.int (iI e9)), some (.int (iI a9)), some (.ref o), none]) (by decide) rfl (Nat.le_of_ble_eq_true rfl) rfl ?_
  intro p e s m args below meth c C htab
  have hts := C.2.2.2.2.1
  refine poI (P := fun PO => V G p l e _ s m args below meth c (MQW G below args s _ _ (pI PO)) w 0 0 0 _ []) (fun PO hPO => ?_)
  refine v_aload C dL_changed_0 rfl ?_
  refine v_iconst C dL_changed_2 ?_
  refine v_aload_n C dL_changed_3 rfl ?_
  refine v_iload_n C dL_changed_4 rfl ?_
  refine v_iload_n C dL_changed_5 rfl ?_
  refine v_iload_n C dL_changed_6 rfl ?_
  refine v_callXi C (q := (RX6, TX6, 6)) (As := [_, _, _]) (rest := [_, _]) (c_X6_changed hfl hb hA hi he ha) (cwV 3 hts gL_changed_X6_changed rfl rfl rfl (by decide +kernel) ⟨Nat.le_of_ble_eq_true rfl, Nat.le_of_ble_eq_true rfl⟩) (hb) rfl rfl rfl (Nat.le_of_ble_eq_true rfl) dL_changed_7 (by dsimp only; omega) (by dsimp only; omega) (fun E w hx => ?_) (fun x_7 w hp => ?_)
  · rcases hx with ⟨rfl, hx⟩ | ⟨rfl, hx⟩
    · obtain ⟨rfl, hx⟩ := hx
      refine v_catch0 C htab ⟨by omega, by omega⟩ (by decide) (List.mem_of_getElem? (i := 1) rfl) (List.mem_of_getElem? (i := 4) rfl) (fun q9 => ?_)
      refine v_astore C dL_changed_15 bsl_6_5 (by decide) rfl ?_
      refine v_iconst C dL_changed_17 ?_
      exact v_iret C rfl dL_changed_18 (by omega) (by omega) (hPO _ _ (Or.inl ⟨rfl, rfl, hx⟩))
    · obtain ⟨rfl, hx⟩ := hx
      refine v_catch1 C htab ⟨by omega, by omega⟩ (by decide) (List.mem_of_getElem? (i := 2) rfl) (List.mem_of_getElem? (i := 2) rfl) (by decide) (List.mem_of_getElem? (i := 1) rfl) (List.mem_of_getElem? (i := 4) rfl) (fun q9 => ?_)
      refine v_astore C dL_changed_19 bsl_6_5 (by decide) rfl ?_
      refine v_iconst C dL_changed_21 ?_
      exact v_iret C rfl dL_changed_22 (by omega) (by omega) (hPO _ _ (Or.inr (Or.inl ⟨rfl, rfl, hx⟩)))
  obtain ⟨u1, u2, rfl⟩ := hp
  rw [nrm_e x_7]
  refine v_i2l C (nrm_r _) dL_changed_10 ?_
  refine v_last C ho (⟨by omega, by omega⟩) (by omega) (by omega) dL_changed_11 ?_
  refine v_upd ho (fun w ho hF9 hE9 => ?_)
  have hb := hF9 _ _ _ (fun h9 => by have h8 : 1 = 7 := h9; omega) hb
  refine v_goto C (tgt := 23) dL_changed_12 (by decide) ?_
  refine v_iconst C dL_changed_23 ?_
  exact v_iret C rfl dL_changed_24 (by omega) (by omega) (hPO _ _ (Or.inr (Or.inr (⟨rfl, u1, ⟨_, u2, ho⟩, hF9⟩))))
set_option maxRecDepth 100000 in
set_option maxHeartbeats 400000 in
theorem c_L_at {G : GG} {l : Launch} {w : Wd} {r o : Nat} {f : Int → Int} {wr tp ra rb : Nat} {q1 q2 : Value} {nw : Int} {A1 : Int → Int} {TA : Nat} {capA vcA : Int} {ML : ML3} {MA : Int → Nat} {t9 s9 i9 e9 : Int} (hfl : l.stackTraces = false) (hb : w r = some (1, .inr (9, [.ref wr, .ref tp, .ref ra, .ref rb, q1, q2]))) (hW : WiresAt G w wr nw A1) (hA1 : ∀ i, 0 ≤ i → i < nw → 1 ≤ A1 i ∧ A1 i ≤ 64) (hA : RowM G w TA ra capA vcA ML MA) (hok : okL nw A1 0 (-1) (fun _ => 0) ML) (hnw : 0 ≤ nw ∧ nw ≤ 200) (ht : R64 t9) (hs : R64 s9) (hi : R32 i9) (he : R32 e9) (ho : w o = some (7, .inl (gJ G, aJ 1 f))) : MG G l yL_at wsL_at 18 720 (1) (6) [.ref r, .long (lI t9), .long (lI s9), .int (iI i9), .int (iI e9), .ref o] w (pI (fun (x : Int) (w' : Wd) => (x = 1 ∧ w' = w ∧ ¬ (0 ≤ i9 ∧ i9 < nw ∧ 0 ≤ e9 ∧ e9 < A1 i9)) ∨ (x = 0 ∧ (0 ≤ i9 ∧ i9 < nw ∧ 0 ≤ e9 ∧ e9 < A1 i9) ∧ (∃ y9, y9 = vbL t9 s9 (64 * i9 + e9) ML 0 ∧ w' o = some (7, .inl (gJ G, aJ 1 (upI f 0 (nrm y9))))) ∧ Fr (fun t => t = 7) w w'))) := by
  refine MG.ofH (cc := cL_at) (nL := 9) (ret := (some .int)) (hh := [(0, 15, 18, 20)]) (ll := [some (.ref r), some (.long (lI t9)), none, some (.long (lI s9)), none, some (.int (iI i9)), some (.int (iI e9)), some (.ref o), none]) (by decide) rfl (Nat.le_of_ble_eq_true rfl) rfl ?_
  intro p e s m args below meth c C htab
  have hts := C.2.2.2.2.1
  refine poI (P := fun PO => V G p l e _ s m args below meth c (MQW G below args s _ _ (pI PO)) w 0 0 0 _ []) (fun PO hPO => ?_)
  refine v_aload C dL_at_0 rfl ?_
  refine v_iconst C dL_at_2 ?_
  refine v_aload_n C dL_at_3 rfl ?_
  refine v_lload_n C dL_at_4 rfl ?_
  refine v_lload_n C dL_at_5 rfl ?_
  refine v_iload C dL_at_6 rfl ?_
  refine v_iload C dL_at_8 rfl ?_
  refine v_callXi C (q := (RX6, TX6, 6)) (As := [_, _, _, _]) (rest := [_, _]) (c_X6_at hfl hb hW hA1 hA hok hnw ht hs hi he) (cwV 4 hts gL_at_X6_at rfl rfl rfl (by decide +kernel) ⟨Nat.le_of_ble_eq_true rfl, Nat.le_of_ble_eq_true rfl⟩) (hb) rfl rfl rfl (Nat.le_of_ble_eq_true rfl) dL_at_10 (by dsimp only; omega) (by dsimp only; omega) (fun E w hx => ?_) (fun x_10 w hp => ?_)
  · obtain ⟨rfl, hx⟩ := hx
    obtain ⟨rfl, hx⟩ := hx
    refine v_catch0 C htab ⟨by omega, by omega⟩ (by decide) (List.mem_of_getElem? (i := 1) rfl) (List.mem_of_getElem? (i := 4) rfl) (fun q9 => ?_)
    refine v_astore C dL_at_18 bsl_9_8 (by decide) rfl ?_
    refine v_iconst C dL_at_20 ?_
    exact v_iret C rfl dL_at_21 (by omega) (by omega) (hPO _ _ (Or.inl ⟨rfl, rfl, hx⟩))
  obtain ⟨u1, u2, rfl⟩ := hp
  rw [nrm_e x_10]
  refine v_i2l C (nrm_r _) dL_at_13 ?_
  refine v_last C ho (⟨by omega, by omega⟩) (by omega) (by omega) dL_at_14 ?_
  refine v_upd ho (fun w ho hF9 hE9 => ?_)
  have hb := hF9 _ _ _ (fun h9 => by have h8 : 1 = 7 := h9; omega) hb
  refine v_goto C (tgt := 22) dL_at_15 (by decide) ?_
  refine v_iconst C dL_at_22 ?_
  exact v_iret C rfl dL_at_23 (by omega) (by omega) (hPO _ _ (Or.inr (⟨rfl, u2, ⟨_, u1, ho⟩, hF9⟩)))
set_option maxRecDepth 100000 in
set_option maxHeartbeats 400000 in
theorem c_L_next {G : GG} {l : Launch} {w : Wd} {r o : Nat} {f : Int → Int} {wr tp ra rb : Nat} {q1 q2 : Value} {nw : Int} {A1 : Int → Int} {TA : Nat} {capA vcA : Int} {ML : ML3} {MA : Int → Nat} {i9 e9 : Int} (hfl : l.stackTraces = false) (hb : w r = some (1, .inr (9, [.ref wr, .ref tp, .ref ra, .ref rb, q1, q2]))) (hW : WiresAt G w wr nw A1) (hA : RowM G w TA ra capA vcA ML MA) (hok : okL nw A1 0 (-1) (fun _ => 0) ML) (hnw : 0 ≤ nw ∧ nw ≤ 200) (hi : R32 i9) (he : R32 e9) (ho : w o = some (7, .inl (gJ G, aJ 1 f))) : MG G l yL_next wsL_next 18 720 (1) (6) [.ref r, .int (iI i9), .int (iI e9), .ref o] w (pI (fun (x : Int) (w' : Wd) => (x = 1 ∧ w' = w ∧ ¬ (0 ≤ i9 ∧ i9 < nw)) ∨ (x = 2 ∧ w' = w ∧ (0 ≤ i9 ∧ i9 < nw) ∧ e9 < 0) ∨ (x = 0 ∧ ((0 ≤ i9 ∧ i9 < nw) ∧ 0 ≤ e9) ∧ (∃ y9, NxP ML e9 i9 y9 ∧ w' o = some (7, .inl (gJ G, aJ 1 (upI f 0 (nrm y9))))) ∧ Fr (fun t => t = 7) w w'))) := by
  refine MG.ofH (cc := cL_next) (nL := 5) (ret := (some .int)) (hh := [(0, 10, 13, 20), (0, 10, 17, 13)]) (ll := [some (.ref r), some (.int (iI i9)), some (.int (iI e9)), some (.ref o), none]) (by decide) rfl (Nat.le_of_ble_eq_true rfl) rfl ?_
  intro p e s m args below meth c C htab
  have hts := C.2.2.2.2.1
  refine poI (P := fun PO => V G p l e _ s m args below meth c (MQW G below args s _ _ (pI PO)) w 0 0 0 _ []) (fun PO hPO => ?_)
  refine v_aload_n C dL_next_0 rfl ?_
  refine v_iconst C dL_next_1 ?_
  refine v_aload_n C dL_next_2 rfl ?_
  refine v_iload_n C dL_next_3 rfl ?_
  refine v_iload_n C dL_next_4 rfl ?_
  refine v_callXi C (q := (RX6, TX6, 6)) (As := [_, _]) (rest := [_, _]) (c_X6_next hfl hb hW hA hok hnw hi he) (cwV 2 hts gL_next_X6_next rfl rfl rfl (by decide +kernel) ⟨Nat.le_of_ble_eq_true rfl, Nat.le_of_ble_eq_true rfl⟩) (hb) rfl rfl rfl (Nat.le_of_ble_eq_true rfl) dL_next_5 (by dsimp only; omega) (by dsimp only; omega) (fun E w hx => ?_) (fun x_5 w hp => ?_)
  · rcases hx with ⟨rfl, hx⟩ | ⟨rfl, hx⟩
    · obtain ⟨rfl, hx⟩ := hx
      refine v_catch0 C htab ⟨by omega, by omega⟩ (by decide) (List.mem_of_getElem? (i := 1) rfl) (List.mem_of_getElem? (i := 4) rfl) (fun q9 => ?_)
      refine v_astore C dL_next_13 bsl_5_4 (by decide) rfl ?_
      refine v_iconst C dL_next_15 ?_
      exact v_iret C rfl dL_next_16 (by omega) (by omega) (hPO _ _ (Or.inl ⟨rfl, rfl, hx⟩))
    · obtain ⟨rfl, hx⟩ := hx
      refine v_catch1 C htab ⟨by omega, by omega⟩ (by decide) (List.mem_of_getElem? (i := 2) rfl) (List.mem_of_getElem? (i := 2) rfl) (by decide) (List.mem_of_getElem? (i := 1) rfl) (List.mem_of_getElem? (i := 4) rfl) (fun q9 => ?_)
      refine v_astore C dL_next_17 bsl_5_4 (by decide) rfl ?_
      refine v_iconst C dL_next_19 ?_
      exact v_iret C rfl dL_next_20 (by omega) (by omega) (hPO _ _ (Or.inr (Or.inl ⟨rfl, rfl, hx⟩)))
  obtain ⟨u1, u2, u3, rfl⟩ := hp
  rw [nrm_e x_5]
  refine v_i2l C (nrm_r _) dL_next_8 ?_
  refine v_last C ho (⟨by omega, by omega⟩) (by omega) (by omega) dL_next_9 ?_
  refine v_upd ho (fun w ho hF9 hE9 => ?_)
  have hb := hF9 _ _ _ (fun h9 => by have h8 : 1 = 7 := h9; omega) hb
  refine v_goto C (tgt := 21) dL_next_10 (by decide) ?_
  refine v_iconst C dL_next_21 ?_
  exact v_iret C rfl dL_next_22 (by omega) (by omega) (hPO _ _ (Or.inr (Or.inr (⟨rfl, ⟨u1, u2⟩, ⟨_, u3, ho⟩, hF9⟩))))
set_option maxRecDepth 100000 in
set_option maxHeartbeats 400000 in
theorem c_L_byteAt {G : GG} {l : Launch} {w : Wd} {r o : Nat} {f : Int → Int} {wr tp ra rb : Nat} {q1 q2 : Value} {TA : Nat} {capA vcA : Int} {ML : ML3} {MA : Int → Nat} {i9 : Int} (hfl : l.stackTraces = false) (hb : w r = some (1, .inr (9, [.ref wr, .ref tp, .ref ra, .ref rb, q1, q2]))) (hA : RowM G w TA ra capA vcA ML MA) (hi : R32 i9) (ho : w o = some (7, .inl (gJ G, aJ 1 f))) : MG G l yL_byteAt wsL_byteAt 18 720 (1) (6) [.ref r, .int (iI i9), .ref o] w (pI (fun (x : Int) (w' : Wd) => (x = 1 ∧ w' = w ∧ ¬ (0 ≤ i9 ∧ i9 < ((encAll 0 (-1) (fun _ => 0) ML).length : Int))) ∨ (x = 0 ∧ (0 ≤ i9 ∧ i9 < ((encAll 0 (-1) (fun _ => 0) ML).length : Int)) ∧ (∃ y9, (∀ f, holds f 0 (encAll 0 (-1) (fun _ => 0) ML) → y9 = f i9) ∧ w' o = some (7, .inl (gJ G, aJ 1 (upI f 0 (nrm y9))))) ∧ Fr (fun t => t = 7) w w'))) := by
  refine MG.ofH (cc := cL_byteAt) (nL := 4) (ret := (some .int)) (hh := [(0, 9, 12, 20)]) (ll := [some (.ref r), some (.int (iI i9)), some (.ref o), none]) (by decide) rfl (Nat.le_of_ble_eq_true rfl) rfl ?_
  intro p e s m args below meth c C htab
  have hts := C.2.2.2.2.1
  refine poI (P := fun PO => V G p l e _ s m args below meth c (MQW G below args s _ _ (pI PO)) w 0 0 0 _ []) (fun PO hPO => ?_)
  refine v_aload_n C dL_byteAt_0 rfl ?_
  refine v_iconst C dL_byteAt_1 ?_
  refine v_aload_n C dL_byteAt_2 rfl ?_
  refine v_iload_n C dL_byteAt_3 rfl ?_
  refine v_callXi C (q := (RX6, TX6, 6)) (As := [_]) (rest := [_, _]) (c_X6_byteAt hfl hb hA hi) (cwV 1 hts gL_byteAt_X6_byteAt rfl rfl rfl (by decide +kernel) ⟨Nat.le_of_ble_eq_true rfl, Nat.le_of_ble_eq_true rfl⟩) (hb) rfl rfl rfl (Nat.le_of_ble_eq_true rfl) dL_byteAt_4 (by dsimp only; omega) (by dsimp only; omega) (fun E w hx => ?_) (fun x_4 w hp => ?_)
  · obtain ⟨rfl, hx⟩ := hx
    obtain ⟨rfl, hx⟩ := hx
    refine v_catch0 C htab ⟨by omega, by omega⟩ (by decide) (List.mem_of_getElem? (i := 1) rfl) (List.mem_of_getElem? (i := 4) rfl) (fun q9 => ?_)
    refine v_astore_n C dL_byteAt_12 bsl_4_3 (by decide) rfl ?_
    refine v_iconst C dL_byteAt_13 ?_
    exact v_iret C rfl dL_byteAt_14 (by omega) (by omega) (hPO _ _ (Or.inl ⟨rfl, rfl, hx⟩))
  obtain ⟨u1, u2, rfl⟩ := hp
  rw [nrm_e x_4]
  refine v_i2l C (nrm_r _) dL_byteAt_7 ?_
  refine v_last C ho (⟨by omega, by omega⟩) (by omega) (by omega) dL_byteAt_8 ?_
  refine v_upd ho (fun w ho hF9 hE9 => ?_)
  have hb := hF9 _ _ _ (fun h9 => by have h8 : 1 = 7 := h9; omega) hb
  refine v_goto C (tgt := 15) dL_byteAt_9 (by decide) ?_
  refine v_iconst C dL_byteAt_15 ?_
  exact v_iret C rfl dL_byteAt_16 (by omega) (by omega) (hPO _ _ (Or.inr (⟨rfl, u1, ⟨_, u2, ho⟩, hF9⟩)))
set_option maxRecDepth 100000 in
set_option maxHeartbeats 400000 in
theorem c_L_open {G : GG} {l : Launch} {w : Wd} {r o : Nat} {f : Int → Int} {wr tp ra rb : Nat} {la op : Option Nat} {TA a : Nat} {capA vcA capA2 nw ti sp : Int} {A1 : Int → Int} {ML : ML3} {OL : ML2} {MA : Int → Nat} {t9 s9 : Int} {mc9 ms9 : Nat} (hfl : l.stackTraces = false) (hb : w r = some (1, .inr (9, [.ref wr, .ref tp, .ref ra, .ref rb, va_rf la, va_rf op]))) (hla : LatAt w la a ti sp) (hlo : la = none → op = none) (hOp : OpenAt G w ML MA op a ti sp OL) (hA : RowM G w TA ra capA vcA ML MA) (hok : okL nw A1 0 (-1) (fun _ => 0) ML) (hnw : 0 ≤ nw ∧ nw ≤ 200) (hTA : 6 < TA ∧ TA < 90) (ht : 0 ≤ ti ∧ ti < 1152921504606846976 ∧ 0 ≤ sp ∧ sp < 1152921504606846976) (hlt : OL ≠ [] → lasT 0 ML < ti ∨ (lasT 0 ML = ti ∧ lasS (-1) ML < sp)) (hL : okC nw A1 (-1) (sall (fun _ => 0) ML) OL) (hc : Cap capA ((encAll 0 (-1) (fun _ => 0) (addM ML ti sp OL)).length : Int) capA2) (hc2 : capA2 ≤ 1000000) (hfit : ((encAll 0 (-1) (fun _ => 0) (addM ML ti sp OL)).length : Int) ≤ 60000) (hn : (ML.length : Int) ≤ 100000) (ht9 : R64 t9) (hs9 : R64 s9) (hcs : 3 ≤ mc9 ∧ 13 ≤ ms9 ∧ ((((0 ≤ t9 ∧ t9 < 1152921504606846976 ∧ 0 ≤ s9 ∧ s9 < 1152921504606846976)) ∧ (la = none ∨ ti < t9 ∨ (t9 = ti ∧ sp < s9))) → 3 + ((capA2 - capA).toNat + 1 + (gvc vcA OL - vcA).toNat) ≤ mc9 ∧ 13 + ((2 * (capA2 - capA)).toNat + ((ML.length : Int) + (ML.length : Int) / 2 + 10).toNat + (2 * (gvc vcA OL - vcA)).toNat) ≤ ms9)) : MG G l yL_open wsL_open 18 720 (mc9) (ms9) [.ref r, .long (lI t9), .long (lI s9)] w (pI (fun (x : Int) (w' : Wd) => (x = 1 ∧ ¬ (((0 ≤ t9 ∧ t9 < 1152921504606846976 ∧ 0 ≤ s9 ∧ s9 < 1152921504606846976)) ∧ (la = none ∨ ti < t9 ∨ (t9 = ti ∧ sp < s9))) ∧ (w' = w ∨ (∃ a9 : Nat, w a9 = none ∧ Fr (fun t => t = 0 ∨ (100 + 4 * a9 ≤ t ∧ t < 104 + 4 * a9)) w w'))) ∨ (x = 0 ∧ (((0 ≤ t9 ∧ t9 < 1152921504606846976 ∧ 0 ≤ s9 ∧ s9 < 1152921504606846976)) ∧ (la = none ∨ ti < t9 ∨ (t9 = ti ∧ sp < s9))) ∧ ∃ (a9 : Nat) (MA2 : Int → Nat), w a9 = none ∧ w' r = some (1, .inr (9, [.ref wr, .ref tp, .ref ra, .ref rb, .ref a9, .ref a9])) ∧ MomAt G w' a9 t9 s9 (-1) ([] : ML2).length (pwL []) (vlL []) (fun j => sall (fun _ => 0) (addM ML ti sp OL) (pwL [] j)) ∧ (∀ i : Int, 0 ≤ i → i < (addM ML ti sp OL).length → MA2 i ≠ a9) ∧ RowM G w' TA ra capA2 (gvc vcA OL) (addM ML ti sp OL) MA2 ∧ Fr (fun t => t = 1 ∨ t = 0 ∨ (TA ≤ t ∧ t ≤ TA + 5) ∨ 100 ≤ t) w w'))) := by
  refine MG.ofH (cc := cL_open) (nL := 6) (ret := (some .int)) (hh := [(0, 6, 9, 13), (0, 6, 13, 15)]) (ll := [some (.ref r), some (.long (lI t9)), none, some (.long (lI s9)), none, none]) (by decide) rfl (Nat.le_of_ble_eq_true rfl) rfl ?_
  intro p e s m args below meth c C htab
  have hts := C.2.2.2.2.1
  refine poI (P := fun PO => V G p l e _ s m args below meth c (MQW G below args s _ _ (pI PO)) w 0 0 0 _ []) (fun PO hPO => ?_)
  refine v_aload_n C dL_open_0 rfl ?_
  refine v_lload_n C dL_open_1 rfl ?_
  refine v_lload_n C dL_open_2 rfl ?_
  refine v_callXv C (q := (RX6, TX6, 6)) (As := [_, _]) (rest := []) (c_open hfl hb hla hlo hOp hA hok hnw hTA ht hlt hL hc hc2 hfit hn ht9 hs9 hcs) (cwV 2 hts gL_open_X6_open rfl rfl rfl (by decide +kernel) ⟨Nat.le_of_ble_eq_true rfl, Nat.le_of_ble_eq_true rfl⟩) (hb) rfl rfl rfl (Nat.le_of_ble_eq_true rfl) dL_open_3 (by dsimp only; omega) (by dsimp only; omega) (fun E w hx => ?_) (fun w hp => ?_)
  · obtain ⟨rfl, hx⟩ := hx
    refine v_catch0 C htab ⟨by omega, by omega⟩ (by decide) (List.mem_of_getElem? (i := 1) rfl) (List.mem_of_getElem? (i := 2) rfl) (fun q9 => ?_)
    refine v_astore C dL_open_9 bsl_6_5 (by decide) rfl ?_
    refine v_iconst C dL_open_11 ?_
    exact v_iret C rfl dL_open_12 (by omega) (by omega) (hPO _ _ (Or.inl ⟨rfl, hx⟩))
  refine v_goto C (tgt := 17) dL_open_6 (by decide) ?_
  refine v_iconst C dL_open_17 ?_
  exact v_iret C rfl dL_open_18 (by omega) (by omega) (hPO _ _ (Or.inr ⟨rfl, hp⟩))
set_option maxRecDepth 100000 in
set_option maxHeartbeats 400000 in
theorem c_L_change {G : GG} {l : Launch} {w : Wd} {r o : Nat} {f : Int → Int} {wr tp ra rb : Nat} {q1 : Value} {op : Option Nat} {TA a : Nat} {capA vcA ti sp : Int} {ML : ML3} {OL : ML2} {MA : Int → Nat} {nw : Int} {A1 : Int → Int} {i9 e9 v9 : Int} {mc9 ms9 : Nat} (hfl : l.stackTraces = false) (hb : w r = some (1, .inr (9, [.ref wr, .ref tp, .ref ra, .ref rb, q1, va_rf op]))) (hW : WiresAt G w wr nw A1) (hA1 : ∀ i, 0 ≤ i → i < nw → 1 ≤ A1 i ∧ A1 i ≤ 64) (hi : R32 i9) (he : R32 e9) (hv : R32 v9) (hA : RowM G w TA ra capA vcA ML MA) (hok : okL nw A1 0 (-1) (fun _ => 0) ML) (hnw : 0 ≤ nw ∧ nw ≤ 200) (hOp : OpenAt G w ML MA op a ti sp OL) (hL : okC nw A1 (-1) (sall (fun _ => 0) ML) OL) (hTA : 6 < TA ∧ TA < 90) (hn : (OL.length : Int) ≤ 100000) (hcs : 2 ≤ mc9 ∧ OL.length + OL.length / 2 + 14 ≤ ms9) (ho : w o = some (7, .inl (gJ G, aJ 1 f))) : MG G l yL_change wsL_change 18 720 (mc9) (ms9) [.ref r, .int (iI i9), .int (iI e9), .int (iI v9), .ref o] w (pI (fun (x : Int) (w' : Wd) => (x = 1 ∧ w' = w ∧ ¬ (0 ≤ i9 ∧ i9 < nw ∧ 0 ≤ e9 ∧ e9 < A1 i9)) ∨ (x = 2 ∧ w' = w ∧ (0 ≤ i9 ∧ i9 < nw ∧ 0 ≤ e9 ∧ e9 < A1 i9) ∧ ¬ (0 ≤ v9 ∧ v9 ≤ 8)) ∨ (x = 3 ∧ w' = w ∧ (0 ≤ i9 ∧ i9 < nw ∧ 0 ≤ e9 ∧ e9 < A1 i9) ∧ (0 ≤ v9 ∧ v9 ≤ 8) ∧ op = none) ∨ (x = 0 ∧ op = some a ∧ (0 ≤ i9 ∧ i9 < nw ∧ 0 ≤ e9 ∧ e9 < A1 i9) ∧ (0 ≤ v9 ∧ v9 ≤ 8) ∧ ∃ (OL2 : ML2) (b9 : Int), okC nw A1 (-1) (sall (fun _ => 0) ML) OL2 ∧ (OL2.length : Int) ≤ OL.length + 1 ∧ sfold (sall (fun _ => 0) ML) OL2 = upI (sfold (sall (fun _ => 0) ML) OL) (64 * i9 + e9) v9 ∧ BP b9 (¬ sfold (sall (fun _ => 0) ML) OL (64 * i9 + e9) = v9) ∧ MomAt G w' a ti sp (-1) OL2.length (pwL OL2) (vlL OL2) (fun j => sall (fun _ => 0) ML (pwL OL2 j)) ∧ w' r = some (1, .inr (9, [.ref wr, .ref tp, .ref ra, .ref rb, q1, va_rf op])) ∧ w' o = some (7, .inl (gJ G, aJ 1 (upI f 0 (b9)))) ∧ Fr (fun t => t = 101 + 4 * a ∨ t = 102 + 4 * a ∨ t = 103 + 4 * a ∨ t = 0 ∨ t = 7) w w'))) := by
  refine MG.ofH (cc := cL_change) (nL := 6) (ret := (some .int)) (hh := [(0, 19, 22, 20), (0, 19, 26, 13), (0, 19, 30, 15)]) (ll := [some (.ref r), some (.int (iI i9)), some (.int (iI e9)), some (.int (iI v9)), some (.ref o), none]) (by decide) rfl (Nat.le_of_ble_eq_true rfl) rfl ?_
  intro p e s m args below meth c C htab
  have hts := C.2.2.2.2.1
  refine poI (P := fun PO => V G p l e _ s m args below meth c (MQW G below args s _ _ (pI PO)) w 0 0 0 _ []) (fun PO hPO => ?_)
  refine v_aload C dL_change_0 rfl ?_
  refine v_iconst C dL_change_2 ?_
  refine v_aload_n C dL_change_3 rfl ?_
  refine v_iload_n C dL_change_4 rfl ?_
  refine v_iload_n C dL_change_5 rfl ?_
  refine v_iload_n C dL_change_6 rfl ?_
  refine v_callXi C (q := (RX6, TX6, 6)) (As := [_, _, _]) (rest := [_, _]) (c_change hfl hb hW hA1 hi he hv hA hok hnw hOp hL hTA hn hcs) (cwV 3 hts gL_change_X6_change rfl rfl rfl (by decide +kernel) ⟨Nat.le_of_ble_eq_true rfl, Nat.le_of_ble_eq_true rfl⟩) (hb) rfl rfl rfl (Nat.le_of_ble_eq_true rfl) dL_change_7 (by dsimp only; omega) (by dsimp only; omega) (fun E w hx => ?_) (fun x_7 w hp => ?_)
  · rcases hx with ⟨rfl, hx⟩ | ⟨rfl, hx⟩ | ⟨rfl, hx⟩
    · obtain ⟨rfl, hx⟩ := hx
      refine v_catch0 C htab ⟨by omega, by omega⟩ (by decide) (List.mem_of_getElem? (i := 1) rfl) (List.mem_of_getElem? (i := 4) rfl) (fun q9 => ?_)
      refine v_astore C dL_change_22 bsl_6_5 (by decide) rfl ?_
      refine v_iconst C dL_change_24 ?_
      exact v_iret C rfl dL_change_25 (by omega) (by omega) (hPO _ _ (Or.inl ⟨rfl, rfl, hx⟩))
    · obtain ⟨rfl, hx⟩ := hx
      refine v_catch1 C htab ⟨by omega, by omega⟩ (by decide) (List.mem_of_getElem? (i := 2) rfl) (List.mem_of_getElem? (i := 2) rfl) (by decide) (List.mem_of_getElem? (i := 1) rfl) (List.mem_of_getElem? (i := 4) rfl) (fun q9 => ?_)
      refine v_astore C dL_change_26 bsl_6_5 (by decide) rfl ?_
      refine v_iconst C dL_change_28 ?_
      exact v_iret C rfl dL_change_29 (by omega) (by omega) (hPO _ _ (Or.inr (Or.inl ⟨rfl, rfl, hx⟩)))
    · obtain ⟨rfl, hx⟩ := hx
      refine v_catch2 C htab ⟨by omega, by omega⟩ (by decide) (List.mem_of_getElem? (i := 3) rfl) (List.mem_of_getElem? (i := 3) rfl) (by decide) (List.mem_of_getElem? (i := 1) rfl) (List.mem_of_getElem? (i := 5) rfl) (by decide) (List.mem_of_getElem? (i := 2) rfl) (List.mem_of_getElem? (i := 0) rfl) (fun q9 => ?_)
      refine v_astore C dL_change_30 bsl_6_5 (by decide) rfl ?_
      refine v_iconst C dL_change_32 ?_
      exact v_iret C rfl dL_change_33 (by omega) (by omega) (hPO _ _ (Or.inr (Or.inr (Or.inl ⟨rfl, rfl, hx⟩))))
  obtain ⟨u0, u1, u2, OL2, u3, u4, u5, u6, hM2, hb, hF9⟩ := hp
  have ho := hF9 _ _ _ (fun h9 => by have h8 : 7 = 101 + 4 * a ∨ 7 = 102 + 4 * a ∨ 7 = 103 + 4 * a ∨ 7 = 0 := h9; omega) ho
  have hFa := hF9
  refine v_if_eq C (u6.r32) (tgt := 17) dL_change_10 (by decide) (fun c_10 => ?_) (fun c_10 => ?_)
  · refine v_lconst C (v := 0) dL_change_17 rfl ?_
    refine v_last C ho (⟨by omega, by omega⟩) (by omega) (by omega) dL_change_18 ?_
    refine v_upd ho (fun w ho hF9 hE9 => ?_)
    have hb := hF9 _ _ _ (fun h9 => by have h8 : 1 = 7 := h9; omega) hb
    have hM2 := hM2.fr hF9 (fun h9 => by have h8 : 100 + 4 * a = 7 := h9; omega) (fun h9 => by have h8 : 101 + 4 * a = 7 := h9; omega) (fun h9 => by have h8 : 102 + 4 * a = 7 := h9; omega) (fun h9 => by have h8 : 103 + 4 * a = 7 := h9; omega)
    refine v_goto C (tgt := 34) dL_change_19 (by decide) ?_
    refine v_iconst C dL_change_34 ?_
    exact v_iret C rfl dL_change_35 (by omega) (by omega) (hPO _ _ (Or.inr (Or.inr (Or.inr ⟨rfl, u0, u1, u2, OL2, _, u3, u4, u5, Or.inr ⟨rfl, u6.z c_10⟩, hM2, hb, ho, (hFa.mono (fun t h => by omega)).tr (hF9.mono (fun t h => by omega))⟩))))
  · refine v_lconst C (v := 1) dL_change_13 rfl ?_
    refine v_goto C (tgt := 18) dL_change_14 (by decide) ?_
    refine v_last C ho (⟨by omega, by omega⟩) (by omega) (by omega) dL_change_18 ?_
    refine v_upd ho (fun w ho hF9 hE9 => ?_)
    have hb := hF9 _ _ _ (fun h9 => by have h8 : 1 = 7 := h9; omega) hb
    have hM2 := hM2.fr hF9 (fun h9 => by have h8 : 100 + 4 * a = 7 := h9; omega) (fun h9 => by have h8 : 101 + 4 * a = 7 := h9; omega) (fun h9 => by have h8 : 102 + 4 * a = 7 := h9; omega) (fun h9 => by have h8 : 103 + 4 * a = 7 := h9; omega)
    refine v_goto C (tgt := 34) dL_change_19 (by decide) ?_
    refine v_iconst C dL_change_34 ?_
    exact v_iret C rfl dL_change_35 (by omega) (by omega) (hPO _ _ (Or.inr (Or.inr (Or.inr ⟨rfl, u0, u1, u2, OL2, _, u3, u4, u5, Or.inl ⟨rfl, u6.nz c_10⟩, hM2, hb, ho, (hFa.mono (fun t h => by omega)).tr (hF9.mono (fun t h => by omega))⟩))))
set_option maxRecDepth 100000 in
set_option maxHeartbeats 400000 in
theorem c_L_close {G : GG} {l : Launch} {w : Wd} {r o : Nat} {f : Int → Int} {wr tp ra rb : Nat} {q1 : Value} {op : Option Nat} {TA a : Nat} {capA vcA capA2 nw ti sp : Int} {A1 : Int → Int} {ML : ML3} {OL : ML2} {MA : Int → Nat} (hb : w r = some (1, .inr (9, [.ref wr, .ref tp, .ref ra, .ref rb, q1, va_rf op]))) (hOp : OpenAt G w ML MA op a ti sp OL) (hA : RowM G w TA ra capA vcA ML MA) (hok : okL nw A1 0 (-1) (fun _ => 0) ML) (hnw : 0 ≤ nw ∧ nw ≤ 200) (hTA : 6 < TA ∧ TA < 90) (ht : 0 ≤ ti ∧ ti < 1152921504606846976 ∧ 0 ≤ sp ∧ sp < 1152921504606846976) (hlt : OL ≠ [] → lasT 0 ML < ti ∨ (lasT 0 ML = ti ∧ lasS (-1) ML < sp)) (hL : okC nw A1 (-1) (sall (fun _ => 0) ML) OL) (hc : Cap capA ((encAll 0 (-1) (fun _ => 0) (addM ML ti sp OL)).length : Int) capA2) (hc2 : capA2 ≤ 1000000) (hfit : ((encAll 0 (-1) (fun _ => 0) (addM ML ti sp OL)).length : Int) ≤ 60000) (hn : (ML.length : Int) ≤ 100000) (hT10 : 10 ≤ TA) (ho : w o = some (7, .inl (gJ G, aJ 1 f))) : MG G l yL_close wsL_close 18 720 (((capA2 - capA).toNat + 1 + (gvc vcA OL - vcA).toNat)) (((2 * (capA2 - capA)).toNat + ((ML.length : Int) + (ML.length : Int) / 2 + 10).toNat + (2 * (gvc vcA OL - vcA)).toNat)) [.ref r, .ref o] w (pI (fun (x : Int) (w' : Wd) => x = 0 ∧ ∃ (w1 : Wd) (y9 : Int), w1 o = some (7, .inl (gJ G, aJ 1 f)) ∧ ((op = none ∧ y9 = -1 ∧ w1 = w) ∨ (op = some a ∧ y9 = OL.length ∧ ∃ MA2, w1 r = some (1, .inr (9, [.ref wr, .ref tp, .ref ra, .ref rb, q1, .null])) ∧ RowM G w1 TA ra capA2 (gvc vcA OL) (addM ML ti sp OL) MA2 ∧ (∃ q3 q4, w1 a = some (100 + 4 * a, .inr (5, [.long (lI ti), .long (lI sp), q3, q4]))) ∧ Fr (fun t => t = 1 ∨ (TA ≤ t ∧ t ≤ TA + 5) ∨ t = 0 ∨ t = 100 + 4 * a) w w1)) ∧ w' o = some (7, .inl (gJ G, aJ 1 (upI f 0 (nrm y9)))) ∧ Fr (fun t => t = 7) w1 w')) := by
  refine MG.ofH (cc := cL_close) (nL := 3) (ret := (some .int)) (hh := [(0, 8, 11, 15)]) (ll := [some (.ref r), some (.ref o), none]) (by decide) rfl (Nat.le_of_ble_eq_true rfl) rfl ?_
  intro p e s m args below meth c C htab
  have hts := C.2.2.2.2.1
  refine poI (P := fun PO => V G p l e _ s m args below meth c (MQW G below args s _ _ (pI PO)) w 0 0 0 _ []) (fun PO hPO => ?_)
  refine v_aload_n C dL_close_0 rfl ?_
  refine v_iconst C dL_close_1 ?_
  refine v_aload_n C dL_close_2 rfl ?_
  refine v_callVi C (q := (RX6, TX6, 6)) (As := []) (rest := [_, _]) (c_closeU hb hOp hA hok hnw hTA ht hlt hL hc hc2 hfit hn) (cwV 0 hts gL_close_X6_close rfl rfl rfl (by decide +kernel) ⟨Nat.le_of_ble_eq_true rfl, Nat.le_of_ble_eq_true rfl⟩) (hb) rfl rfl rfl (Nat.le_of_ble_eq_true rfl) dL_close_3 (by dsimp only; omega) (by dsimp only; omega) (fun x_3 w hp => ?_)
  have ho : w o = some (7, .inl (gJ G, aJ 1 f)) := by
    rcases hp with ⟨-, -, h⟩ | ⟨-, -, MA2, -, -, -, hF⟩
    · rw [h]; exact ho
    · exact hF _ _ _ (fun h9 => by have h8 : 7 = 1 ∨ (TA ≤ 7 ∧ 7 ≤ TA + 5) ∨ 7 = 0 ∨ 7 = 100 + 4 * a := h9; omega) ho
  have hps := hp
  have ho1 := ho
  obtain ⟨w1, hw1⟩ : ∃ z, z = w := ⟨_, rfl⟩
  rw [← hw1] at hps ho1
  rw [nrm_e x_3]
  refine v_i2l C (nrm_r _) dL_close_6 ?_
  refine v_last C ho (⟨by omega, by omega⟩) (by omega) (by omega) dL_close_7 ?_
  refine v_upd ho (fun w ho hF9 hE9 => ?_)
  refine v_goto C (tgt := 14) dL_close_8 (by decide) ?_
  refine v_iconst C dL_close_14 ?_
  exact v_iret C rfl dL_close_15 (by omega) (by omega) (hPO _ _ ⟨rfl, w1, x_3, ho1, hps, ho, by rw [hw1]; exact hF9⟩)
set_option maxRecDepth 100000 in
set_option maxHeartbeats 400000 in
theorem c_L_feed {G : GG} {l : Launch} {w : Wd} {r o : Nat} {f : Int → Int} {wr tp ra rb : Nat} {q1 q2 : Value} {tz capT : Int} {T : Int → Int} {i9 capT2 : Int} (hfl : l.stackTraces = false) (hb : w r = some (1, .inr (9, [.ref wr, .ref tp, .ref ra, .ref rb, q1, q2]))) (hT : BytesAt G w 4 tp tz capT T) (hi : R32 i9) (hc : Cap capT (tz + 4) capT2) (hc2 : capT2 ≤ 1000000) (ho : w o = some (7, .inl (gJ G, aJ 1 f))) : MG G l yL_feed wsL_feed 18 720 ((1 + (capT2 - capT).toNat)) ((6 + (2 * (capT2 - capT)).toNat)) [.ref r, .int (iI i9), .ref o] w (pI (fun (x : Int) (w' : Wd) => (x = 1 ∧ w' = w ∧ 59996 < tz) ∨ (x = 0 ∧ tz ≤ 59996 ∧ w' r = some (1, .inr (9, [.ref wr, .ref tp, .ref ra, .ref rb, q1, q2])) ∧ BytesAt G w' 4 tp (tz + 4) capT2 (putL T tz (fbL i9 4)) ∧ w' o = some (7, .inl (gJ G, aJ 1 (upI f 0 (nrm (tz + 4))))) ∧ Fr (fun t => t = 4 ∨ t = 5 ∨ t = 0 ∨ t = 7) w w'))) := by
  refine MG.ofH (cc := cL_feed) (nL := 4) (ret := (some .int)) (hh := [(0, 9, 12, 15)]) (ll := [some (.ref r), some (.int (iI i9)), some (.ref o), none]) (by decide) rfl (Nat.le_of_ble_eq_true rfl) rfl ?_
  intro p e s m args below meth c C htab
  have hts := C.2.2.2.2.1
  refine poI (P := fun PO => V G p l e _ s m args below meth c (MQW G below args s _ _ (pI PO)) w 0 0 0 _ []) (fun PO hPO => ?_)
  refine v_aload_n C dL_feed_0 rfl ?_
  refine v_iconst C dL_feed_1 ?_
  refine v_aload_n C dL_feed_2 rfl ?_
  refine v_iload_n C dL_feed_3 rfl ?_
  refine v_callXi C (q := (RX6, TX6, 6)) (As := [_]) (rest := [_, _]) (c_X6_feed hfl hb hT hi hc hc2) (cwV 1 hts gL_feed_X6_feed rfl rfl rfl (by decide +kernel) ⟨Nat.le_of_ble_eq_true rfl, Nat.le_of_ble_eq_true rfl⟩) (hb) rfl rfl rfl (Nat.le_of_ble_eq_true rfl) dL_feed_4 (by dsimp only; omega) (by dsimp only; omega) (fun E w hx => ?_) (fun x_4 w hp => ?_)
  · obtain ⟨rfl, hx⟩ := hx
    obtain ⟨rfl, hx⟩ := hx
    refine v_catch0 C htab ⟨by omega, by omega⟩ (by decide) (List.mem_of_getElem? (i := 1) rfl) (List.mem_of_getElem? (i := 3) rfl) (fun q9 => ?_)
    refine v_astore_n C dL_feed_12 bsl_4_3 (by decide) rfl ?_
    refine v_iconst C dL_feed_13 ?_
    exact v_iret C rfl dL_feed_14 (by omega) (by omega) (hPO _ _ (Or.inl ⟨rfl, rfl, hx⟩))
  obtain ⟨u1, u2, hb, hT, hF9⟩ := hp
  have ho := hF9 _ _ _ (fun h9 => by have h8 : 7 = 4 ∨ 7 = 5 ∨ 7 = 0 := h9; omega) ho
  have hFa := hF9
  rw [u2, nrm_e (tz + 4)]
  refine v_i2l C (nrm_r _) dL_feed_7 ?_
  refine v_last C ho (⟨by omega, by omega⟩) (by omega) (by omega) dL_feed_8 ?_
  refine v_upd ho (fun w ho hF9 hE9 => ?_)
  have hb := hF9 _ _ _ (fun h9 => by have h8 : 1 = 7 := h9; omega) hb
  have hT := hT.fr hF9 (fun h9 => by have h8 : 4 = 7 := h9; omega) (fun h9 => by have h8 : 4 + 1 = 7 := h9; omega)
  refine v_goto C (tgt := 15) dL_feed_9 (by decide) ?_
  refine v_iconst C dL_feed_15 ?_
  exact v_iret C rfl dL_feed_16 (by omega) (by omega) (hPO _ _ (Or.inr ⟨rfl, u1, hb, hT, ho, (hFa.mono (fun t h => by omega)).tr (hF9.mono (fun t h => by omega))⟩))
set_option maxRecDepth 100000 in
set_option maxHeartbeats 400000 in
theorem c_L_end {G : GG} {l : Launch} {w : Wd} {r o : Nat} {f : Int → Int} {wr tp ra rb : Nat} {q1 q2 : Value} {tz capT : Int} {T : Int → Int} {i9 : Int} (hfl : l.stackTraces = false) (hb : w r = some (1, .inr (9, [.ref wr, .ref tp, .ref ra, .ref rb, q1, q2]))) (hT : BytesAt G w 4 tp tz capT T) (hi : R32 i9) : MG G l yL_end wsL_end 18 720 (1) (6) [.ref r, .int (iI i9)] w (pI (fun (x : Int) (w' : Wd) => (x = 1 ∧ w' = w ∧ ¬ (0 ≤ i9 ∧ i9 ≤ tz)) ∨ (x = 0 ∧ (0 ≤ i9 ∧ i9 ≤ tz) ∧ w' r = some (1, .inr (9, [.ref wr, .ref tp, .ref ra, .ref rb, q1, q2])) ∧ BytesAt G w' 4 tp i9 capT T ∧ Fr (fun t => t = 4 ∨ t = 5 ∨ t = 0) w w'))) := by
  refine MG.ofH (cc := cL_end) (nL := 3) (ret := (some .int)) (hh := [(0, 5, 8, 13)]) (ll := [some (.ref r), some (.int (iI i9)), none]) (by decide) rfl (Nat.le_of_ble_eq_true rfl) rfl ?_
  intro p e s m args below meth c C htab
  have hts := C.2.2.2.2.1
  refine poI (P := fun PO => V G p l e _ s m args below meth c (MQW G below args s _ _ (pI PO)) w 0 0 0 _ []) (fun PO hPO => ?_)
  refine v_aload_n C dL_end_0 rfl ?_
  refine v_iload_n C dL_end_1 rfl ?_
  refine v_callXv C (q := (RX6, TX6, 6)) (As := [_]) (rest := []) (c_X6_end hfl hb hT hi) (cwV 1 hts gL_end_X6_end rfl rfl rfl (by decide +kernel) ⟨Nat.le_of_ble_eq_true rfl, Nat.le_of_ble_eq_true rfl⟩) (hb) rfl rfl rfl (Nat.le_of_ble_eq_true rfl) dL_end_2 (by dsimp only; omega) (by dsimp only; omega) (fun E w hx => ?_) (fun w hp => ?_)
  · obtain ⟨rfl, hx⟩ := hx
    obtain ⟨rfl, hx⟩ := hx
    refine v_catch0 C htab ⟨by omega, by omega⟩ (by decide) (List.mem_of_getElem? (i := 1) rfl) (List.mem_of_getElem? (i := 2) rfl) (fun q9 => ?_)
    refine v_astore_n C dL_end_8 bsl_3_2 (by decide) rfl ?_
    refine v_iconst C dL_end_9 ?_
    exact v_iret C rfl dL_end_10 (by omega) (by omega) (hPO _ _ (Or.inl ⟨rfl, rfl, hx⟩))
  refine v_goto C (tgt := 11) dL_end_5 (by decide) ?_
  refine v_iconst C dL_end_11 ?_
  exact v_iret C rfl dL_end_12 (by omega) (by omega) (hPO _ _ (Or.inr ⟨rfl, hp⟩))
