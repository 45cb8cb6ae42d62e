
theorem MX.imp {G : GG} {l : Launch} {y : MethodName} {ws : List Cond} {F L mc ms : Nat} {av : List Value} {w : Wd} {post post2 : Option Value → Wd → Prop} {px px2 : String → Wd → Prop} (h : MX G l y ws F L mc ms av w post px) (hi : ∀ v w', post v w' → post2 v w') (hx : ∀ E w', px E w' → px2 E w') : MX G l y ws F L mc ms av w post2 px2 := fun p e ha hc hk s m args below hf hfit hP hT => by
  obtain ⟨n, o, h1, h2, h3, h4⟩ := h p e ha hc hk s m args below hf hfit hP hT
  refine ⟨n, o, h1, h2, h3, ?_⟩
  rcases h4 with ⟨⟨v, w', e1, hp, hR, hK⟩, hL⟩ | ⟨q, e1, E, ce, L, ⟨w', hp, hR⟩, r⟩
  · exact Or.inl ⟨⟨v, w', e1, hi _ _ hp, hR, hK⟩, hL⟩
  · exact Or.inr ⟨q, e1, E, ce, L, ⟨w', hx _ _ hp, hR⟩, r⟩
theorem c_wire {G : GG} {l : Launch} {w : Wd} {r : Nat} {wr tp ra rb : Nat} {la : Option Nat} {q2 : Value} {nw : Int} {A1 : Int → Int} {i9 : Int} (hfl : l.stackTraces = false) (hb : w r = some (1, .inr (9, [.ref wr, .ref tp, .ref ra, .ref rb, va_rf la, q2]))) (hW : WiresAt G w wr nw A1) (hi : R32 i9) : MX G l yX6_wire wsX6_wire 16 640 (1) (6) [.ref r, .int (iI i9)] w (pI (fun (x : Int) (w' : Wd) => (1 ≤ i9 ∧ i9 ≤ 64) ∧ nw < 200 ∧ la = none ∧ x = nw ∧ WiresAt G w' wr (nw + 1) (upI A1 nw i9) ∧ w' r = some (1, .inr (9, [.ref wr, .ref tp, .ref ra, .ref rb, va_rf la, q2])) ∧ Fr (fun t => t = 2 ∨ t = 3) w w')) (fun (E : String) (w9 : Wd) => (E = "java/lang/IllegalArgumentException" ∧ w9 = w ∧ ¬ (1 ≤ i9 ∧ i9 ≤ 64)) ∨ (E = "java/lang/IllegalStateException" ∧ w9 = w ∧ (1 ≤ i9 ∧ i9 ≤ 64) ∧ (nw = 200 ∨ la ≠ none))) := by
  cases la with
  | none => exact (c_X6_wire_N hfl hb hW hi).imp (fun v w' h => by
      obtain ⟨x, hv, h1, h2, h3⟩ := h
      exact ⟨x, hv, h1, h2, rfl, h3⟩) (fun E w' h => by
      rcases h with ⟨h1, h2, h3⟩ | ⟨h1, h2, h3, h4⟩
      · exact Or.inl ⟨h1, h2, h3⟩
      · exact Or.inr ⟨h1, h2, h3, Or.inl h4⟩)
  | some a => exact (c_X6_wire_S (a := a) hfl hb hW hi).imp (fun v w' h => by
      obtain ⟨x, hv, h1⟩ := h
      exact h1.elim) (fun E w' h => by
      rcases h with ⟨h1, h2, h3⟩ | ⟨h1, h2, h3⟩
      · exact Or.inl ⟨h1, h2, h3⟩
      · exact Or.inr ⟨h1, h2, h3, Or.inr (fun q => nomatch q)⟩)
theorem c_change {G : GG} {l : Launch} {w : Wd} {r : Nat} {wr tp ra rb : Nat} {q1 : Value} {op : Option Nat} {TA a : Nat} {capA vcA ti sp : Int} {ML : ML3} {OL : ML2} {MA : Int → Nat} {nw : Int} {A1 : Int → Int} {i9 e9 v9 : Int} {mc9 ms9 : Nat} (hfl : l.stackTraces = false) (hb : w r = some (1, .inr (9, [.ref wr, .ref tp, .ref ra, .ref rb, q1, va_rf op]))) (hW : WiresAt G w wr nw A1) (hA1 : ∀ i, 0 ≤ i → i < nw → 1 ≤ A1 i ∧ A1 i ≤ 64) (hi : R32 i9) (he : R32 e9) (hv : R32 v9) (hA : RowM G w TA ra capA vcA ML MA) (hok : okL nw A1 0 (-1) (fun _ => 0) ML) (hnw : 0 ≤ nw ∧ nw ≤ 200) (hOp : OpenAt G w ML MA op a ti sp OL) (hL : okC nw A1 (-1) (sall (fun _ => 0) ML) OL) (hTA : 6 < TA ∧ TA < 90) (hn : (OL.length : Int) ≤ 100000) (hcs : 2 ≤ mc9 ∧ OL.length + OL.length / 2 + 14 ≤ ms9) : MX G l yX6_change wsX6_change 16 640 (mc9) (ms9) [.ref r, .int (iI i9), .int (iI e9), .int (iI v9)] w (pI (fun (x : Int) (w' : Wd) => op = some a ∧ (0 ≤ i9 ∧ i9 < nw ∧ 0 ≤ e9 ∧ e9 < A1 i9) ∧ (0 ≤ v9 ∧ v9 ≤ 8) ∧ ∃ OL2 : ML2, okC nw A1 (-1) (sall (fun _ => 0) ML) OL2 ∧ (OL2.length : Int) ≤ OL.length + 1 ∧ sfold (sall (fun _ => 0) ML) OL2 = upI (sfold (sall (fun _ => 0) ML) OL) (64 * i9 + e9) v9 ∧ BP x (¬ sfold (sall (fun _ => 0) ML) OL (64 * i9 + e9) = v9) ∧ MomAt G w' a ti sp (-1) OL2.length (pwL OL2) (vlL OL2) (fun j => sall (fun _ => 0) ML (pwL OL2 j)) ∧ w' r = some (1, .inr (9, [.ref wr, .ref tp, .ref ra, .ref rb, q1, va_rf op])) ∧ Fr (fun t => t = 101 + 4 * a ∨ t = 102 + 4 * a ∨ t = 103 + 4 * a ∨ t = 0) w w')) (fun (E : String) (w9 : Wd) => (E = "java/lang/IndexOutOfBoundsException" ∧ w9 = w ∧ ¬ (0 ≤ i9 ∧ i9 < nw ∧ 0 ≤ e9 ∧ e9 < A1 i9)) ∨ (E = "java/lang/IllegalArgumentException" ∧ w9 = w ∧ (0 ≤ i9 ∧ i9 < nw ∧ 0 ≤ e9 ∧ e9 < A1 i9) ∧ ¬ (0 ≤ v9 ∧ v9 ≤ 8)) ∨ (E = "java/lang/IllegalStateException" ∧ w9 = w ∧ (0 ≤ i9 ∧ i9 < nw ∧ 0 ≤ e9 ∧ e9 < A1 i9) ∧ (0 ≤ v9 ∧ v9 ≤ 8) ∧ op = none)) := by
  rcases hOp with ⟨rfl, rfl⟩ | ⟨rfl, hMo, hna⟩
  · exact (c_X6_change_N hfl hb hW hA1 hi he hv ⟨by omega, by omega⟩).imp (fun v w' h => by
      obtain ⟨x, hv, h1⟩ := h
      exact h1.elim) (fun E w' h => by
      rcases h with h | h | ⟨h1, h2, h3, h4⟩
      · exact Or.inl h
      · exact Or.inr (Or.inl h)
      · exact Or.inr (Or.inr ⟨h1, h2, h3, h4, rfl⟩))
  · exact (c_X6_change_S hfl hb hW hA1 hi he hv hA hok hnw hMo hL hTA hn hcs).imp (fun v w' h => by
      obtain ⟨x, hv, h1⟩ := h
      exact ⟨x, hv, rfl, h1⟩) (fun E w' h => by
      rcases h with h | h
      · exact Or.inl h
      · exact Or.inr (Or.inl h))
theorem c_closeU {G : GG} {l : Launch} {w : Wd} {r : Nat} {wr tp ra rb : Nat} {q1 : Value} {op : Option Nat} {TA a : Nat} {capA vcA capA2 nw ti sp : Int} {A1 : Int → Int} {ML : ML3} {OL : ML2} {MA : Int → Nat} (hb : w r = some (1, .inr (9, [.ref wr, .ref tp, .ref ra, .ref rb, q1, va_rf op]))) (hOp : OpenAt G w ML MA op a ti sp OL) (hA : RowM G w TA ra capA vcA ML MA) (hok : okL nw A1 0 (-1) (fun _ => 0) ML) (hnw : 0 ≤ nw ∧ nw ≤ 200) (hTA : 6 < TA ∧ TA < 90) (ht : 0 ≤ ti ∧ ti < 1152921504606846976 ∧ 0 ≤ sp ∧ sp < 1152921504606846976) (hlt : OL ≠ [] → lasT 0 ML < ti ∨ (lasT 0 ML = ti ∧ lasS (-1) ML < sp)) (hL : okC nw A1 (-1) (sall (fun _ => 0) ML) OL) (hc : Cap capA ((encAll 0 (-1) (fun _ => 0) (addM ML ti sp OL)).length : Int) capA2) (hc2 : capA2 ≤ 1000000) (hfit : ((encAll 0 (-1) (fun _ => 0) (addM ML ti sp OL)).length : Int) ≤ 60000) (hn : (ML.length : Int) ≤ 100000) : MG G l yX6_close wsX6_close 16 640 (((capA2 - capA).toNat + 1 + (gvc vcA OL - vcA).toNat)) (((2 * (capA2 - capA)).toNat + ((ML.length : Int) + (ML.length : Int) / 2 + 10).toNat + (2 * (gvc vcA OL - vcA)).toNat)) [.ref r] w (pI (fun (x : Int) (w' : Wd) => (op = none ∧ x = -1 ∧ w' = w) ∨ (op = some a ∧ x = OL.length ∧ ∃ MA2, w' r = some (1, .inr (9, [.ref wr, .ref tp, .ref ra, .ref rb, q1, .null])) ∧ RowM G w' TA ra capA2 (gvc vcA OL) (addM ML ti sp OL) MA2 ∧ (∃ q3 q4, w' a = some (100 + 4 * a, .inr (5, [.long (lI ti), .long (lI sp), q3, q4]))) ∧ Fr (fun t => t = 1 ∨ (TA ≤ t ∧ t ≤ TA + 5) ∨ t = 0 ∨ t = 100 + 4 * a) w w'))) := by
  rcases hOp with ⟨rfl, rfl⟩ | ⟨rfl, hMo, hna⟩
  · exact (c_X6_close_N hb).imp fun v w' h => by
      obtain ⟨x, hv, h1⟩ := h
      exact ⟨x, hv, Or.inl ⟨rfl, h1⟩⟩
  · exact (c_X6_close_S hb hMo hna hA hok hnw hTA ht hlt hL hc hc2 hfit hn).imp fun v w' h => by
      obtain ⟨x, hv, h1⟩ := h
      exact ⟨x, hv, Or.inr ⟨rfl, h1⟩⟩
theorem c_open {G : GG} {l : Launch} {w : Wd} {r : Nat} {wr tp ra rb : Nat} {la op : Option Nat} {TA a : Nat} {capA vcA capA2 nw ti sp : Int} {A1 : Int → Int} {ML : ML3} {OL : ML2} {MA : Int → Nat} {t9 s9 : Int} (hfl : l.stackTraces = false) (hb : w r = some (1, .inr (9, [.ref wr, .ref tp, .ref ra, .ref rb, va_rf la, va_rf op]))) (hla : LatAt w la a ti sp) (hlo : la = none → op = none) (hOp : OpenAt G w ML MA op a ti sp OL) (hA : RowM G w TA ra capA vcA ML MA) (hok : okL nw A1 0 (-1) (fun _ => 0) ML) (hnw : 0 ≤ nw ∧ nw ≤ 200) (hTA : 6 < TA ∧ TA < 90) (ht : 0 ≤ ti ∧ ti < 1152921504606846976 ∧ 0 ≤ sp ∧ sp < 1152921504606846976) (hlt : OL ≠ [] → lasT 0 ML < ti ∨ (lasT 0 ML = ti ∧ lasS (-1) ML < sp)) (hL : okC nw A1 (-1) (sall (fun _ => 0) ML) OL) (hc : Cap capA ((encAll 0 (-1) (fun _ => 0) (addM ML ti sp OL)).length : Int) capA2) (hc2 : capA2 ≤ 1000000) (hfit : ((encAll 0 (-1) (fun _ => 0) (addM ML ti sp OL)).length : Int) ≤ 60000) (hn : (ML.length : Int) ≤ 100000) (ht9 : R64 t9) (hs9 : R64 s9) : MX G l yX6_open wsX6_open 16 640 (3 + ((capA2 - capA).toNat + 1 + (gvc vcA OL - vcA).toNat)) (13 + ((2 * (capA2 - capA)).toNat + ((ML.length : Int) + (ML.length : Int) / 2 + 10).toNat + (2 * (gvc vcA OL - vcA)).toNat)) [.ref r, .long (lI t9), .long (lI s9)] w (pV (fun (w' : Wd) => (((0 ≤ t9 ∧ t9 < 1152921504606846976 ∧ 0 ≤ s9 ∧ s9 < 1152921504606846976)) ∧ (la = none ∨ ti < t9 ∨ (t9 = ti ∧ sp < s9))) ∧ ∃ (a9 : Nat) (MA2 : Int → Nat), w a9 = none ∧ w' r = some (1, .inr (9, [.ref wr, .ref tp, .ref ra, .ref rb, .ref a9, .ref a9])) ∧ MomAt G w' a9 t9 s9 (-1) ([] : ML2).length (pwL []) (vlL []) (fun j => sall (fun _ => 0) (addM ML ti sp OL) (pwL [] j)) ∧ (∀ i : Int, 0 ≤ i → i < (addM ML ti sp OL).length → MA2 i ≠ a9) ∧ RowM G w' TA ra capA2 (gvc vcA OL) (addM ML ti sp OL) MA2 ∧ Fr (fun t => t = 1 ∨ t = 0 ∨ (TA ≤ t ∧ t ≤ TA + 5) ∨ 100 ≤ t) w w')) (fun (E : String) (w9 : Wd) => E = "java/lang/IllegalArgumentException" ∧ ¬ (((0 ≤ t9 ∧ t9 < 1152921504606846976 ∧ 0 ≤ s9 ∧ s9 < 1152921504606846976)) ∧ (la = none ∨ ti < t9 ∨ (t9 = ti ∧ sp < s9))) ∧ (w9 = w ∨ (∃ a9 : Nat, w a9 = none ∧ Fr (fun t => t = 0 ∨ (100 + 4 * a9 ≤ t ∧ t < 104 + 4 * a9)) w w9))) := by
  have hcg := hA.cap
  rcases hla with rfl | ⟨rfl, q3, q4, hq⟩
  · have h0 := hlo rfl
    subst h0
    have hOL : OL = [] := by
      rcases hOp with ⟨-, h⟩ | ⟨h, -⟩
      · exact h
      · cases h
    subst hOL
    rw [addM_0] at hc ⊢
    have hcx := hc.stay (by omega) (by omega)
    subst hcx
    exact (c_X6_open_N hfl hb hA hTA ht9 hs9 ⟨by omega, by omega⟩).imp (fun v w' h => by
      obtain ⟨hv, h1, h2⟩ := h
      exact ⟨hv, ⟨h1, Or.inl rfl⟩, h2⟩) (fun E w' h => by
      obtain ⟨h1, h2, h3⟩ := h
      exact ⟨h1, fun g => h2 g.1, h3⟩)
  · exact (c_X6_open_S hfl hb hq hOp hA hok hnw hTA ht hlt hL hc hc2 hfit hn ht9 hs9).imp (fun v w' h => by
      obtain ⟨hv, ⟨h1, h9⟩, h2⟩ := h
      exact ⟨hv, ⟨h1, Or.inr h9⟩, h2⟩) (fun E w' h => by
      obtain ⟨h1, h2, h3⟩ := h
      refine ⟨h1, fun g => h2 ⟨g.1, ?_⟩, h3⟩
      rcases g.2 with g | g
      · cases g
      · exact g)
set_option maxRecDepth 100000 in
set_option maxHeartbeats 400000 in
theorem c_L_wire {G : GG} {l : Launch} {w : Wd} {r o : Nat} {f : Int → Int} {wr tp ra rb : Nat} {la : Option Nat} {q2 : Value} {nw : Int} {A1 : Int → Int} {i9 : Int} (hfl : l.stackTraces = false) (hb : w r = some (1, .inr (9, [.ref wr, .ref tp, .ref ra, .ref rb, va_rf la, q2]))) (hW : WiresAt G w wr nw A1) (hi : R32 i9) (ho : w o = some (7, .inl (gJ G, aJ 1 f))) : MG G l yL_wire wsL_wire 18 720 (1) (6) [.ref r, .int (iI i9), .ref o] w (pI (fun (x : Int) (w' : Wd) => (x = 1 ∧ w' = w ∧ ¬ (1 ≤ i9 ∧ i9 ≤ 64)) ∨ (x = 2 ∧ w' = w ∧ (1 ≤ i9 ∧ i9 ≤ 64) ∧ (nw = 200 ∨ la ≠ none)) ∨ (x = 0 ∧ (1 ≤ i9 ∧ i9 ≤ 64) ∧ nw < 200 ∧ la = none ∧ WiresAt G w' wr (nw + 1) (upI A1 nw i9) ∧ w' r = some (1, .inr (9, [.ref wr, .ref tp, .ref ra, .ref rb, va_rf la, q2])) ∧ w' o = some (7, .inl (gJ G, aJ 1 (upI f 0 (nw)))) ∧ Fr (fun t => t = 2 ∨ t = 3 ∨ t = 7) w w'))) := by
  refine MG.ofH (cc := cL_wire) (nL := 4) (ret := (some .int)) (hh := [(0, 9, 12, 13), (0, 9, 15, 15)]) (ll := [some (.ref r), some (.int (iI i9)), some (.ref o), none]) (by decide) rfl (Nat.le_of_ble_eq_true rfl) rfl ?_
  intro p e s m args below meth c C htab
  have hts := C.2.2.2.2.1
  refine poI (P := fun PO => V G p l e _ s m args below meth c (MQW G below args s _ _ (pI PO)) w 0 0 0 _ []) (fun PO hPO => ?_)
  have hwn : 0 ≤ nw ∧ nw ≤ 200 := by obtain ⟨kq, f9, -, -, g, -⟩ := hW; exact g
  refine v_aload_n C dL_wire_0 rfl ?_
  refine v_iconst C dL_wire_1 ?_
  refine v_aload_n C dL_wire_2 rfl ?_
  refine v_iload_n C dL_wire_3 rfl ?_
  refine v_callXi C (q := (RX6, TX6, 6)) (As := [_]) (rest := [_, _]) (c_wire hfl hb hW hi) (cwV 1 hts gL_wire_X6_wire rfl rfl rfl (by decide +kernel) ⟨Nat.le_of_ble_eq_true rfl, Nat.le_of_ble_eq_true rfl⟩) (hb) rfl rfl rfl (Nat.le_of_ble_eq_true rfl) dL_wire_4 (by dsimp only; omega) (by dsimp only; omega) (fun E w hx => ?_) (fun x_4 w hp => ?_)
  · rcases hx with ⟨rfl, hx⟩ | ⟨rfl, hx⟩
    · obtain ⟨rfl, hx⟩ := hx
      refine v_catch0 C htab ⟨by omega, by omega⟩ (by decide) (List.mem_of_getElem? (i := 1) rfl) (List.mem_of_getElem? (i := 2) rfl) (fun q9 => ?_)
      refine v_astore_n C dL_wire_12 bsl_4_3 (by decide) rfl ?_
      refine v_iconst C dL_wire_13 ?_
      exact v_iret C rfl dL_wire_14 (by omega) (by omega) (hPO _ _ (Or.inl ⟨rfl, rfl, hx⟩))
    · obtain ⟨rfl, hx⟩ := hx
      refine v_catch1 C htab ⟨by omega, by omega⟩ (by decide) (List.mem_of_getElem? (i := 2) rfl) (List.mem_of_getElem? (i := 3) rfl) (by decide) (List.mem_of_getElem? (i := 1) rfl) (List.mem_of_getElem? (i := 0) rfl) (fun q9 => ?_)
      refine v_astore_n C dL_wire_15 bsl_4_3 (by decide) rfl ?_
      refine v_iconst C dL_wire_16 ?_
      exact v_iret C rfl dL_wire_17 (by omega) (by omega) (hPO _ _ (Or.inr (Or.inl ⟨rfl, rfl, hx⟩)))
  obtain ⟨u1, u2, u3, u4, hW, hb, hF9⟩ := hp
  have ho := hF9 _ _ _ (fun h9 => by have h8 : 7 = 2 ∨ 7 = 3 := h9; omega) ho
  have hFa := hF9
  rw [u4]
  refine v_i2l C (⟨by omega, by omega⟩) dL_wire_7 ?_
  refine v_last C ho (⟨by omega, by omega⟩) (by omega) (by omega) dL_wire_8 ?_
  refine v_upd ho (fun w ho hF9 hE9 => ?_)
  have hb := hF9 _ _ _ (fun h9 => by have h8 : 1 = 7 := h9; omega) hb
  have hW := hW.fr hF9 (fun h9 => by have h8 : 2 = 7 := h9; omega) (fun h9 => by have h8 : 3 = 7 := h9; omega)
  refine v_goto C (tgt := 18) dL_wire_9 (by decide) ?_
  refine v_iconst C dL_wire_18 ?_
  exact v_iret C rfl dL_wire_19 (by omega) (by omega) (hPO _ _ (Or.inr (Or.inr ⟨rfl, u1, u2, u3, hW, hb, ho, (hFa.mono (fun t h => by omega)).tr (hF9.mono (fun t h => by omega))⟩)))
