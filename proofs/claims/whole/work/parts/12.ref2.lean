theorem sk_6_2 {x0 x1 x2 x3 x4 x5 : Option Value} : stK [x0, x1, x2, x3, x4, x5] 2 = [x0, x1, none, x3, x4, x5] := rfl
theorem sk_6_3 {x0 x1 x2 x3 x4 x5 : Option Value} : stK [x0, x1, x2, x3, x4, x5] 3 = [x0, x1, x2, none, x4, x5] := rfl
theorem sk_6_4 {x0 x1 x2 x3 x4 x5 : Option Value} : stK [x0, x1, x2, x3, x4, x5] 4 = [x0, x1, x2, x3, none, x5] := rfl
theorem sl_6_1 {x0 x1 x2 x3 x4 x5 : Option Value} {v : Value} : stL [x0, x1, x2, x3, x4, x5] 1 v = [x0, some v, x2, x3, x4, x5] := rfl
theorem sl_6_2 {x0 x1 x2 x3 x4 x5 : Option Value} {v : Value} : stL [x0, x1, x2, x3, x4, x5] 2 v = [x0, x1, some v, x3, x4, x5] := rfl
theorem sl_6_3 {x0 x1 x2 x3 x4 x5 : Option Value} {v : Value} : stL [x0, x1, x2, x3, x4, x5] 3 v = [x0, x1, x2, some v, x4, x5] := rfl
theorem sl_6_4 {x0 x1 x2 x3 x4 x5 : Option Value} {v : Value} : stL [x0, x1, x2, x3, x4, x5] 4 v = [x0, x1, x2, x3, some v, x5] := rfl
theorem sl_6_5 {x0 x1 x2 x3 x4 x5 : Option Value} {v : Value} : stL [x0, x1, x2, x3, x4, x5] 5 v = [x0, x1, x2, x3, x4, some v] := rfl
set_option maxRecDepth 100000 in
set_option maxHeartbeats 8000000 in
theorem c_X7_finish {G : GG} {l : Launch} {r : Nat} {ad : Nat → Nat} {w : Wd} {c0 nw op sm ti sp nm nc sz ts av fi wr rm rc : Int} {A1 A3 A4 A9 A10 A11 A13 A14 A15 A16 A18 A20 A25 A26 A27 A28 A30 A31 : Int → Int}  (hR : RefAt G r ad w c0 nw op sm ti sp nm nc sz ts av fi wr rm rc A1 A3 A4 A9 A10 A11 A13 A14 A15 A16 A18 A20 A25 A26 A27 A28 A30 A31) (h0 : 0 ≤ nw ∧ nw ≤ 200) (h4 : ∀ i, 0 ≤ i → i < 12800 → 0 ≤ A4 i ∧ A4 i ≤ 8) (h3 : ∀ i, 0 ≤ i → i < 12800 → 0 ≤ A3 i ∧ A3 i ≤ 8) (hm : 0 ≤ nm ∧ nm ≤ 15000) (hti : 0 ≤ ti ∧ ti < 1152921504606846976) (hsp : 0 ≤ sp ∧ sp < 1152921504606846976) (hl9 : 0 ≤ (if nm = 0 then 0 else A9 (nm - 1)) ∧ (if nm = 0 then 0 else A9 (nm - 1)) ≤ ti) (hl10 : -1 ≤ (if nm = 0 then -1 else A10 (nm - 1)) ∧ (if nm = 0 then -1 else A10 (nm - 1)) < 1152921504606846976 ∧ (ti = (if nm = 0 then 0 else A9 (nm - 1)) → (if nm = 0 then -1 else A10 (nm - 1)) < sp)) (hnc : 0 ≤ nc ∧ nc + (drF A4 A3 (64 * nw).toNat 0).length ≤ 30001) (hsz : 0 ≤ sz ∧ sz + (encM ti sp (if nm = 0 then 0 else A9 (nm - 1)) (if nm = 0 then -1 else A10 (nm - 1)) A4 (drF A4 A3 (64 * nw).toNat 0)).length ≤ 60000) : MG G l yX7_finish wsX7_finish 3 120 0 0 [.ref r] w (pI (fun (x : Int) (w' : Wd) => Fr mT w w' ∧ (((drF A4 A3 (64 * nw).toNat 0) = [] ∧ x = 0 ∧ RefAt G r ad w' c0 nw op sm ti sp nm nc sz ts av fi wr rm rc A1 A3 A4 A9 A10 A11 A13 A14 A15 A16 A18 A20 A25 A26 A27 A28 A30 A31) ∨ ((drF A4 A3 (64 * nw).toNat 0) ≠ [] ∧ x = (drF A4 A3 (64 * nw).toNat 0).length ∧ RefAt G r ad w' c0 nw op sm ti sp (nm + 1) (nc + (drF A4 A3 (64 * nw).toNat 0).length) (sz + (encM ti sp (if nm = 0 then 0 else A9 (nm - 1)) (if nm = 0 then -1 else A10 (nm - 1)) A4 (drF A4 A3 (64 * nw).toNat 0)).length) ts av fi wr rm rc A1 (stl A3 A4 (64 * nw)) A4 (upI A9 nm ti) (upI A10 nm sp) (upI A11 nm sz) (putL A13 nc ((drF A4 A3 (64 * nw).toNat 0).map (fun _ => nm))) (putL A14 nc (drF A4 A3 (64 * nw).toNat 0)) (putL A15 nc ((drF A4 A3 (64 * nw).toNat 0).map A3)) (putL A16 nc ((drF A4 A3 (64 * nw).toNat 0).map A4)) (putL A18 sz (encM ti sp (if nm = 0 then 0 else A9 (nm - 1)) (if nm = 0 then -1 else A10 (nm - 1)) A4 (drF A4 A3 (64 * nw).toNat 0))) A20 A25 A26 A27 A28 A30 A31)))) := by
  refine MG.of (cc := cX7_finish) (nL := 6) (ret := (some .int)) (ll := [some (.ref r), none, none, none, none, none]) (by decide) rfl (Nat.le_of_ble_eq_true rfl) rfl ?_
  intro p e s m args below meth c C
  have hts := C.2.2.2.2.1
  have g70 : GetF G s m args 70 10 2 := getF_of C 10 2 (T := TX7) (N := 33) (Cn := RX7) (ref := "TraceBookModel") rfl (by decide) (fun _ h => List.mem_cons_of_mem _ (List.mem_append_right _ (h))) (List.mem_of_getElem? (i := 3) rfl) (fun _ h => h)
  have g85 : GetF G s m args 85 10 19 := getF_of C 10 19 (T := TX7) (N := 33) (Cn := RX7) (ref := "TraceBookModel") rfl (by decide) (fun _ h => List.mem_cons_of_mem _ (List.mem_append_right _ (h))) (List.mem_of_getElem? (i := 5) rfl) (fun _ h => h)
  have g26 : GetF G s m args 26 10 11 := getF_of C 10 11 (T := TX7) (N := 33) (Cn := RX7) (ref := "TraceBookModel") rfl (by decide) (fun _ h => List.mem_cons_of_mem _ (List.mem_append_right _ (h))) (List.mem_of_getElem? (i := 7) rfl) (fun _ h => h)
  have g88 : GetF G s m args 88 10 12 := getF_of C 10 12 (T := TX7) (N := 33) (Cn := RX7) (ref := "TraceBookModel") rfl (by decide) (fun _ h => List.mem_cons_of_mem _ (List.mem_append_right _ (h))) (List.mem_of_getElem? (i := 8) rfl) (fun _ h => h)
  have g19 : GetF G s m args 19 10 9 := getF_of C 10 9 (T := TX7) (N := 33) (Cn := RX7) (ref := "TraceBookModel") rfl (by decide) (fun _ h => List.mem_cons_of_mem _ (List.mem_append_right _ (h))) (List.mem_of_getElem? (i := 9) rfl) (fun _ h => h)
  have g93 : GetF G s m args 93 10 7 := getF_of C 10 7 (T := TX7) (N := 33) (Cn := RX7) (ref := "TraceBookModel") rfl (by decide) (fun _ h => List.mem_cons_of_mem _ (List.mem_append_right _ (h))) (List.mem_of_getElem? (i := 1) rfl) (fun _ h => h)
  have g23 : GetF G s m args 23 10 10 := getF_of C 10 10 (T := TX7) (N := 33) (Cn := RX7) (ref := "TraceBookModel") rfl (by decide) (fun _ h => List.mem_cons_of_mem _ (List.mem_append_right _ (h))) (List.mem_of_getElem? (i := 10) rfl) (fun _ h => h)
  have g103 : GetF G s m args 103 10 8 := getF_of C 10 8 (T := TX7) (N := 33) (Cn := RX7) (ref := "TraceBookModel") rfl (by decide) (fun _ h => List.mem_cons_of_mem _ (List.mem_append_right _ (h))) (List.mem_of_getElem? (i := 2) rfl) (fun _ h => h)
  have p88 : PutF G s m args 88 10 12 (.int) := putF_of C 10 12 tyX7 tyX7_ok nmX7 (T := TX7) (N := 33) (Cn := RX7) (ref := "TraceBookModel") rfl (by decide) (fun _ h => List.mem_cons_of_mem _ (List.mem_append_right _ (h))) (List.mem_of_getElem? (i := 8) rfl) (fun _ h => h) rfl (by decide +kernel)
  have g16 : GetF G s m args 16 10 4 := getF_of C 10 4 (T := TX7) (N := 33) (Cn := RX7) (ref := "TraceBookModel") rfl (by decide) (fun _ h => List.mem_cons_of_mem _ (List.mem_append_right _ (h))) (List.mem_of_getElem? (i := 4) rfl) (fun _ h => h)
  have g29 : GetF G s m args 29 10 13 := getF_of C 10 13 (T := TX7) (N := 33) (Cn := RX7) (ref := "TraceBookModel") rfl (by decide) (fun _ h => List.mem_cons_of_mem _ (List.mem_append_right _ (h))) (List.mem_of_getElem? (i := 11) rfl) (fun _ h => h)
  have g133 : GetF G s m args 133 10 17 := getF_of C 10 17 (T := TX7) (N := 33) (Cn := RX7) (ref := "TraceBookModel") rfl (by decide) (fun _ h => List.mem_cons_of_mem _ (List.mem_append_right _ (h))) (List.mem_of_getElem? (i := 12) rfl) (fun _ h => h)
  have g32 : GetF G s m args 32 10 14 := getF_of C 10 14 (T := TX7) (N := 33) (Cn := RX7) (ref := "TraceBookModel") rfl (by decide) (fun _ h => List.mem_cons_of_mem _ (List.mem_append_right _ (h))) (List.mem_of_getElem? (i := 13) rfl) (fun _ h => h)
  have g35 : GetF G s m args 35 10 15 := getF_of C 10 15 (T := TX7) (N := 33) (Cn := RX7) (ref := "TraceBookModel") rfl (by decide) (fun _ h => List.mem_cons_of_mem _ (List.mem_append_right _ (h))) (List.mem_of_getElem? (i := 14) rfl) (fun _ h => h)
  have g13 : GetF G s m args 13 10 3 := getF_of C 10 3 (T := TX7) (N := 33) (Cn := RX7) (ref := "TraceBookModel") rfl (by decide) (fun _ h => List.mem_cons_of_mem _ (List.mem_append_right _ (h))) (List.mem_of_getElem? (i := 15) rfl) (fun _ h => h)
  have g38 : GetF G s m args 38 10 16 := getF_of C 10 16 (T := TX7) (N := 33) (Cn := RX7) (ref := "TraceBookModel") rfl (by decide) (fun _ h => List.mem_cons_of_mem _ (List.mem_append_right _ (h))) (List.mem_of_getElem? (i := 16) rfl) (fun _ h => h)
  have p133 : PutF G s m args 133 10 17 (.int) := putF_of C 10 17 tyX7 tyX7_ok nmX7 (T := TX7) (N := 33) (Cn := RX7) (ref := "TraceBookModel") rfl (by decide) (fun _ h => List.mem_cons_of_mem _ (List.mem_append_right _ (h))) (List.mem_of_getElem? (i := 12) rfl) (fun _ h => h) rfl (by decide +kernel)
  refine poI (P := fun PO => V G p l e _ s m args below meth c (MQW G below args s _ _ (pI PO)) w 0 0 0 _ []) (fun PO hPO => ?_)
  obtain ⟨w0, hw0⟩ : ∃ z, z = w := ⟨_, rfl⟩
  rw [← hw0] at hPO
  have hF : Fr mT w0 w := by rw [hw0]; exact Fr.rf
  have hm1 : 0 ≤ nm ∧ nm ≤ 15001 := ⟨hm.1, by omega⟩
  have hlR : R64 (if nm = 0 then 0 else A9 (nm - 1)) := ⟨by omega, by omega⟩
  have htR : R64 ti := ⟨by omega, by omega⟩
  refine v_aload_n C dX7_finish_0 rfl ?_
  refine v_callVi C (q := (RX7, TX7, 33)) (As := []) (rest := []) (c_X7_many hR h0 (fun i a b => ⟨by have := h4 i a b; omega, by have := h4 i a b; omega⟩) (fun i a b => ⟨by have := h3 i a b; omega, by have := h3 i a b; omega⟩)) (cwV 0 hts gX7_finish_X7_many rfl rfl rfl (by decide +kernel) ⟨Nat.le_of_ble_eq_true rfl, Nat.le_of_ble_eq_true rfl⟩) hR.1 rfl rfl rfl (Nat.le_of_ble_eq_true rfl) dX7_finish_1 (Nat.le_of_ble_eq_true rfl) (Nat.le_of_ble_eq_true rfl) (fun x_1 w hp => ?_)
  obtain ⟨rfl, e1⟩ := hp
  have hnn : x_1 ≤ 12800 := by rw [e1]; have := drF_len (f := A4) (g := A3) (n := (64 * nw).toNat) (p := 0); omega
  have hn0 : 0 ≤ x_1 := by omega
  refine v_wide (k' := 0) (z' := 0) (Nat.le_refl _) (Nat.le_refl _) ?_
  refine v_istore_n C dX7_finish_4 sl_6_1 (by decide) rfl ?_
  refine v_iload_n C dX7_finish_5 rfl ?_
  refine v_if_ne C (⟨by omega, by omega⟩) (tgt := 11) dX7_finish_6 (by decide) (fun c_6 => ?_) (fun c_6 => ?_)
  · obtain ⟨hv9, hhv⟩ : ∃ z : Int, z = (if ti = (if nm = 0 then 0 else A9 (nm - 1)) then 2 * (sp - (if nm = 0 then -1 else A10 (nm - 1))) + 1 else 2 * (ti - (if nm = 0 then 0 else A9 (nm - 1)))) := ⟨_, rfl⟩
    have hvR : 0 ≤ hv9 ∧ hv9 < 9223372036854775808 := by
        rw [hhv]
        by_cases q : ti = (if nm = 0 then 0 else A9 (nm - 1))
        · have := hl10.2.2 q
          rw [if_pos q]; omega
        · rw [if_neg q]; omega
    have hE : (encM ti sp (if nm = 0 then 0 else A9 (nm - 1)) (if nm = 0 then -1 else A10 (nm - 1)) A4 (drF A4 A3 (64 * nw).toNat 0)).length = (hdrL ti sp (if nm = 0 then 0 else A9 (nm - 1)) (if nm = 0 then -1 else A10 (nm - 1))).length + (c7 x_1).length + (encL A4 0 (drF A4 A3 (64 * nw).toNat 0)).length := by rw [encM, List.length_append, List.length_append, ← e1]
    have hhv1 : ti = (if nm = 0 then 0 else A9 (nm - 1)) → hdrL ti sp (if nm = 0 then 0 else A9 (nm - 1)) (if nm = 0 then -1 else A10 (nm - 1)) = c7 hv9 := fun q => by rw [hdrL, if_pos q, hhv, if_pos q]
    have hhv3 : ¬ ti = (if nm = 0 then 0 else A9 (nm - 1)) → hdrL ti sp (if nm = 0 then 0 else A9 (nm - 1)) (if nm = 0 then -1 else A10 (nm - 1)) = c7 hv9 ++ c7 sp := fun q => by rw [hdrL, if_neg q, hhv, if_neg q]
    have hhv2 : ¬ ti = (if nm = 0 then 0 else A9 (nm - 1)) → hv9 = 2 * (ti - (if nm = 0 then 0 else A9 (nm - 1))) := fun q => by rw [hhv, if_neg q]
    have hhl : (c7 hv9).length ≤ (hdrL ti sp (if nm = 0 then 0 else A9 (nm - 1)) (if nm = 0 then -1 else A10 (nm - 1))).length := by
        by_cases q : ti = (if nm = 0 then 0 else A9 (nm - 1))
        · rw [hhv1 q]; exact Nat.le_refl _
        · rw [hhv3 q, List.length_append]; omega
    refine v_aload_n C dX7_finish_11 rfl ?_
    refine v_callVl C (q := (RX7, TX7, 33)) (As := []) (rest := []) (c_X7_head hR hm1 hlR htR) (cwV 0 hts gX7_finish_X7_head rfl rfl rfl (by decide +kernel) ⟨Nat.le_of_ble_eq_true rfl, Nat.le_of_ble_eq_true rfl⟩) hR.1 rfl rfl rfl (Nat.le_of_ble_eq_true rfl) dX7_finish_12 (Nat.le_of_ble_eq_true rfl) (Nat.le_of_ble_eq_true rfl) (fun x_12 w hp => ?_)
    obtain ⟨rfl, e12⟩ := hp
    rw [← hhv] at e12
    subst e12
    refine v_wide (k' := 0) (z' := 0) (Nat.le_refl _) (Nat.le_refl _) ?_
    refine v_callSi C (b := 0) (t := 0) (ci := 0) (fs := []) (q := (RX7, TX7, 33)) (As := [_]) (rest := []) (c_X7_bytesOf hvR) (va_cwS 1 hts gX7_finish_X7_bytesOf rfl rfl rfl (by decide +kernel) ⟨Nat.le_of_ble_eq_true rfl, Nat.le_of_ble_eq_true rfl⟩) rfl rfl (Nat.le_of_ble_eq_true rfl) dX7_finish_15 (Nat.le_of_ble_eq_true rfl) (Nat.le_of_ble_eq_true rfl) (fun x_15 w hp => ?_)
    obtain ⟨rfl, e15⟩ := hp
    refine v_wide (k' := 0) (z' := 0) (Nat.le_refl _) (Nat.le_refl _) ?_
    refine v_iload_n C dX7_finish_18 rfl ?_
    refine v_i2l C (⟨by omega, by omega⟩) dX7_finish_19 ?_
    refine v_callSi C (b := 0) (t := 0) (ci := 0) (fs := []) (q := (RX7, TX7, 33)) (As := [_]) (rest := [_]) (c_X7_bytesOf ⟨by omega, by omega⟩) (va_cwS 1 hts gX7_finish_X7_bytesOf rfl rfl rfl (by decide +kernel) ⟨Nat.le_of_ble_eq_true rfl, Nat.le_of_ble_eq_true rfl⟩) rfl rfl (Nat.le_of_ble_eq_true rfl) dX7_finish_20 (Nat.le_of_ble_eq_true rfl) (Nat.le_of_ble_eq_true rfl) (fun x_20 w hp => ?_)
    obtain ⟨rfl, e20⟩ := hp
    refine v_wide (k' := 0) (z' := 0) (Nat.le_refl _) (Nat.le_refl _) ?_
    refine v_iadd C dX7_finish_23 ?_
    have J47 : ∀ q : Int, q = (if ti = (if nm = 0 then 0 else A9 (nm - 1)) then 0 else ((c7 sp).length : Int)) → V G p l e { frames := 3, cells := 0, slots := 0, locals := 120 } s m args below meth c (MQW G below args s 0 0 (pI PO)) w 0 0 47 [some (.ref r), some (.int (iI x_1)), none, none, none, none] [.int (iI q), .int (iI (x_15 + x_20))] := by
      intro q hq
      refine v_iadd C dX7_finish_47 ?_
      refine v_istore_n C dX7_finish_48 sl_6_2 (by decide) rfl ?_
      refine v_iconst C dX7_finish_49 ?_
      refine v_istore_n C dX7_finish_50 sl_6_3 (by decide) rfl ?_
      refine v_iconst C dX7_finish_51 ?_
      refine v_istore C dX7_finish_52 sl_6_4 (by decide) rfl ?_
      have L54 : ∀ (N : Nat) (i b v : Int), (0 ≤ i ∧ i ≤ 64 * nw) → (0 ≤ v ∧ 64 * v ≤ i) → (b + (encL A4 v (drF A4 A3 (64 * nw - i).toNat i)).length = (encM ti sp (if nm = 0 then 0 else A9 (nm - 1)) (if nm = 0 then -1 else A10 (nm - 1)) A4 (drF A4 A3 (64 * nw).toNat 0)).length) → (64 * nw - i).toNat < N → V G p l e { frames := 3, cells := 0, slots := 0, locals := 120 } s m args below meth c (MQW G below args s 0 0 (pI PO)) w 0 0 54 [some (.ref r), some (.int (iI x_1)), some (.int (iI b)), some (.int (iI v)), some (.int (iI i)), none] [] := by
        intro N
        induction N with
        | zero => intro i b v i1 i2 i3 hm; exact absurd hm (Nat.not_lt_zero _)
        | succ N ih =>
          intro i b v i1 i2 i3 hm
          refine v_iload C dX7_finish_54 rfl ?_
          refine v_bipush C dX7_finish_56 rfl ?_
          refine v_aload_n C dX7_finish_58 rfl ?_
          refine v_getf C g70 hR.1 rfl dX7_finish_59 ?_
          refine v_imul C dX7_finish_62 ?_
          refine v_icmp_ge C (⟨by omega, by omega⟩) (⟨by omega, by omega⟩) (tgt := 117) dX7_finish_63 (by decide) (fun c_63 => ?_) (fun c_63 => ?_)
          · have hbb : b = (encM ti sp (if nm = 0 then 0 else A9 (nm - 1)) (if nm = 0 then -1 else A10 (nm - 1)) A4 (drF A4 A3 (64 * nw).toNat 0)).length := by
              rw [show (64 * nw - i).toNat = 0 by omega] at i3
              simpa [drF, encL] using i3
            refine v_aload_n C dX7_finish_117 rfl ?_
            refine v_getf C g85 hR.1 rfl dX7_finish_118 ?_
            refine v_iload_n C dX7_finish_121 rfl ?_
            refine v_iadd C dX7_finish_122 ?_
            refine v_ldcI C (v := 60000) (List.mem_of_getElem? (i := 6) rfl) (by decide +kernel) dX7_finish_123 ?_
            refine v_icmp_le C (⟨by omega, by omega⟩) (⟨by omega, by omega⟩) (tgt := 130) dX7_finish_125 (by decide) (fun c_125 => ?_) (fun c_125 => ?_)
            · refine v_aload_n C dX7_finish_130 rfl ?_
              refine v_getf C g26 hR.1 rfl dX7_finish_131 ?_
              refine v_aload_n C dX7_finish_134 rfl ?_
              refine v_getf C g88 hR.1 rfl dX7_finish_135 ?_
              refine v_aload_n C dX7_finish_138 rfl ?_
              refine v_getf C g85 hR.1 rfl dX7_finish_139 ?_
              refine m_st_11 C hR (⟨by omega, by omega⟩) (by omega) (by omega) dX7_finish_142 (fun w hR hF9 => ?_)
              have hF := hF.tr hF9
              have J160 : ∀ q : Int, BP q (ti = (if nm = 0 then 0 else A9 (nm - 1))) → V G p l e { frames := 3, cells := 0, slots := 0, locals := 120 } s m args below meth c (MQW G below args s 0 0 (pI PO)) w 0 0 160 [some (.ref r), some (.int (iI x_1)), none, none, none, none] [.int (iI q)] := by
                intro q h160
                refine v_istore C dX7_finish_160 sl_6_4 (by decide) rfl ?_
                refine v_aload_n C dX7_finish_162 rfl ?_
                refine v_aload_n C dX7_finish_163 rfl ?_
                refine v_callVl C (q := (RX7, TX7, 33)) (As := []) (rest := [_]) (c_X7_head hR hm1 hlR htR) (cwV 0 hts gX7_finish_X7_head rfl rfl rfl (by decide +kernel) ⟨Nat.le_of_ble_eq_true rfl, Nat.le_of_ble_eq_true rfl⟩) hR.1 rfl rfl rfl (Nat.le_of_ble_eq_true rfl) dX7_finish_164 (Nat.le_of_ble_eq_true rfl) (Nat.le_of_ble_eq_true rfl) (fun x_164 w hp => ?_)
                obtain ⟨rfl, e164⟩ := hp
                rw [← hhv] at e164
                subst e164
                refine v_wide (k' := 0) (z' := 0) (Nat.le_refl _) (Nat.le_refl _) ?_
                refine v_callVv C (q := (RX7, TX7, 33)) (As := [_]) (rest := []) (c_X7_write hR hvR ⟨by omega, by have := c7pos x_1; omega⟩) (cwV 1 hts gX7_finish_X7_write rfl rfl rfl (by decide +kernel) ⟨Nat.le_of_ble_eq_true rfl, Nat.le_of_ble_eq_true rfl⟩) hR.1 rfl rfl rfl (Nat.le_of_ble_eq_true rfl) dX7_finish_167 (Nat.le_of_ble_eq_true rfl) (Nat.le_of_ble_eq_true rfl) (fun w hp => ?_)
                obtain ⟨hR, hF9⟩ := hp
                have hF := hF.tr hF9
                refine v_wide (k' := 0) (z' := 0) (Nat.le_refl _) (Nat.le_refl _) ?_
                have J183 : ∀ (w : Wd) (sz1 : Int) (B18 : Int → Int), RefAt G r ad w c0 nw op sm ti sp nm nc sz1 ts av fi wr rm rc A1 A3 A4 A9 A10 (upI A11 nm sz) A13 A14 A15 A16 B18 A20 A25 A26 A27 A28 A30 A31 → Fr mT w0 w → sz1 = sz + (hdrL ti sp (if nm = 0 then 0 else A9 (nm - 1)) (if nm = 0 then -1 else A10 (nm - 1))).length → B18 = putL A18 sz (hdrL ti sp (if nm = 0 then 0 else A9 (nm - 1)) (if nm = 0 then -1 else A10 (nm - 1))) → V G p l e { frames := 3, cells := 0, slots := 0, locals := 120 } s m args below meth c (MQW G below args s 0 0 (pI PO)) w 0 0 183 [some (.ref r), some (.int (iI x_1)), none, none, none, none] [] := by
                  intro w sz1 B18 hR hF hz1 hB18
                  refine v_aload_n C dX7_finish_183 rfl ?_
                  refine v_iload_n C dX7_finish_184 rfl ?_
                  refine v_i2l C (⟨by omega, by omega⟩) dX7_finish_185 ?_
                  refine v_callVv C (q := (RX7, TX7, 33)) (As := [_]) (rest := []) (c_X7_write hR ⟨by omega, by omega⟩ ⟨by omega, by omega⟩) (cwV 1 hts gX7_finish_X7_write rfl rfl rfl (by decide +kernel) ⟨Nat.le_of_ble_eq_true rfl, Nat.le_of_ble_eq_true rfl⟩) hR.1 rfl rfl rfl (Nat.le_of_ble_eq_true rfl) dX7_finish_186 (Nat.le_of_ble_eq_true rfl) (Nat.le_of_ble_eq_true rfl) (fun w hp => ?_)
                  obtain ⟨hR, hF9⟩ := hp
                  have hF := hF.tr hF9
                  refine v_wide (k' := 0) (z' := 0) (Nat.le_refl _) (Nat.le_refl _) ?_
                  refine v_aload_n C dX7_finish_189 rfl ?_
                  refine v_getf C g19 hR.1 rfl dX7_finish_190 ?_
                  refine v_aload_n C dX7_finish_193 rfl ?_
                  refine v_getf C g88 hR.1 rfl dX7_finish_194 ?_
                  refine v_aload_n C dX7_finish_197 rfl ?_
                  refine v_getf C g93 hR.1 rfl dX7_finish_198 ?_
                  refine m_st_9 C hR (⟨by omega, by omega⟩) (by omega) (by omega) dX7_finish_201 (fun w hR hF9 => ?_)
                  have hF := hF.tr hF9
                  refine v_aload_n C dX7_finish_202 rfl ?_
                  refine v_getf C g23 hR.1 rfl dX7_finish_203 ?_
                  refine v_aload_n C dX7_finish_206 rfl ?_
                  refine v_getf C g88 hR.1 rfl dX7_finish_207 ?_
                  refine v_aload_n C dX7_finish_210 rfl ?_
                  refine v_getf C g103 hR.1 rfl dX7_finish_211 ?_
                  refine m_st_10 C hR (⟨by omega, by omega⟩) (by omega) (by omega) dX7_finish_214 (fun w hR hF9 => ?_)
                  have hF := hF.tr hF9
                  obtain ⟨T18, hT18⟩ : ∃ f, f = putL (putL B18 sz1 (c7 x_1)) (sz1 + (c7 x_1).length) (encL A4 0 (drF A4 A3 (64 * nw).toNat 0)) := ⟨_, rfl⟩
                  obtain ⟨T13, hT13⟩ : ∃ f, f = putL A13 nc ((drF A4 A3 (64 * nw).toNat 0).map (fun _ => nm)) := ⟨_, rfl⟩
                  obtain ⟨T14, hT14⟩ : ∃ f, f = putL A14 nc (drF A4 A3 (64 * nw).toNat 0) := ⟨_, rfl⟩
                  obtain ⟨T15, hT15⟩ : ∃ f, f = putL A15 nc ((drF A4 A3 (64 * nw).toNat 0).map A3) := ⟨_, rfl⟩
                  obtain ⟨T16, hT16⟩ : ∃ f, f = putL A16 nc ((drF A4 A3 (64 * nw).toNat 0).map A4) := ⟨_, rfl⟩
                  refine v_iconst C dX7_finish_215 ?_
                  refine v_istore_n C dX7_finish_216 sl_6_3 (by decide) rfl ?_
                  refine v_iconst C dX7_finish_217 ?_
                  refine v_istore C dX7_finish_218 sl_6_5 (by decide) rfl ?_
                  have L220 : ∀ (N : Nat) (w : Wd) (i v sz2 nc2 : Int) (C13 C14 C15 C16 C18 : Int → Int), (RefAt G r ad w c0 nw op sm ti sp nm nc2 sz2 ts av fi wr rm rc A1 (stl A3 A4 i) A4 (upI A9 nm ti) (upI A10 nm sp) (upI A11 nm sz) C13 C14 C15 C16 C18 A20 A25 A26 A27 A28 A30 A31) → (Fr mT w0 w) → (0 ≤ i ∧ i ≤ 64 * nw) → (0 ≤ v ∧ 64 * v ≤ i) → (putL C18 sz2 (encL A4 v (drF A4 A3 (64 * nw - i).toNat i)) = T18) → (0 ≤ sz2 ∧ sz2 + (encL A4 v (drF A4 A3 (64 * nw - i).toNat i)).length = sz + (encM ti sp (if nm = 0 then 0 else A9 (nm - 1)) (if nm = 0 then -1 else A10 (nm - 1)) A4 (drF A4 A3 (64 * nw).toNat 0)).length) → (0 ≤ nc2 ∧ nc2 + (drF A4 A3 (64 * nw - i).toNat i).length = nc + (drF A4 A3 (64 * nw).toNat 0).length) → (putL C13 nc2 ((drF A4 A3 (64 * nw - i).toNat i).map (fun _ => nm)) = T13) → (putL C14 nc2 (drF A4 A3 (64 * nw - i).toNat i) = T14) → (putL C15 nc2 ((drF A4 A3 (64 * nw - i).toNat i).map A3) = T15) → (putL C16 nc2 ((drF A4 A3 (64 * nw - i).toNat i).map A4) = T16) → (64 * nw - i).toNat < N → V G p l e { frames := 3, cells := 0, slots := 0, locals := 120 } s m args below meth c (MQW G below args s 0 0 (pI PO)) w 0 0 220 [some (.ref r), some (.int (iI x_1)), none, some (.int (iI v)), none, some (.int (iI i))] [] := by
                    intro N
                    induction N with
                    | zero => intro w i v sz2 nc2 C13 C14 C15 C16 C18 hR hF i1 i2 i3 i4 i5 i6 i7 i8 i9 hm; exact absurd hm (Nat.not_lt_zero _)
                    | succ N ih =>
                      intro w i v sz2 nc2 C13 C14 C15 C16 C18 hR hF i1 i2 i3 i4 i5 i6 i7 i8 i9 hm
                      refine v_iload C dX7_finish_220 rfl ?_
                      refine v_bipush C dX7_finish_222 rfl ?_
                      refine v_aload_n C dX7_finish_224 rfl ?_
                      refine v_getf C g70 hR.1 rfl dX7_finish_225 ?_
                      refine v_imul C dX7_finish_228 ?_
                      refine v_icmp_ge C (⟨by omega, by omega⟩) (⟨by omega, by omega⟩) (tgt := 361) dX7_finish_229 (by decide) (fun c_229 => ?_) (fun c_229 => ?_)
                      · refine v_aload_n C dX7_finish_361 rfl ?_
                        refine v_dup C rfl dX7_finish_362 ?_
                        refine v_getf C g88 hR.1 rfl dX7_finish_363 ?_
                        refine v_iconst C dX7_finish_366 ?_
                        refine v_iadd C dX7_finish_367 ?_
                        refine m_put_12 C p88 hR dX7_finish_368 (fun w hR hF9 => ?_)
                        have hF := hF.tr hF9
                        rw [show (64 * nw - i).toNat = 0 by omega] at i3 i4 i5 i6 i7 i8 i9
                        simp only [drF, encL, putL, List.map_nil, List.length_nil] at i3 i4 i5 i6 i7 i8 i9
                        have f18 : C18 = putL A18 sz (encM ti sp (if nm = 0 then 0 else A9 (nm - 1)) (if nm = 0 then -1 else A10 (nm - 1)) A4 (drF A4 A3 (64 * nw).toNat 0)) := by rw [i3, hT18, hB18, hz1, encM, putL_app, putL_app, List.length_append, ← e1]; congr 1; omega
                        rw [f18, i6, i7, i8, i9, hT13, hT14, hT15, hT16, show sz2 = sz + (encM ti sp (if nm = 0 then 0 else A9 (nm - 1)) (if nm = 0 then -1 else A10 (nm - 1)) A4 (drF A4 A3 (64 * nw).toNat 0)).length by omega, show nc2 = nc + (drF A4 A3 (64 * nw).toNat 0).length by omega, show i = 64 * nw by omega] at hR
                        refine v_iload_n C dX7_finish_371 rfl ?_
                        exact v_iret C rfl dX7_finish_372 (Nat.le_refl _) (Nat.le_refl _) (hPO _ _ ⟨hF, Or.inr ⟨fun q => c_6 (by rw [e1, q]; rfl), e1, hR⟩⟩)
                      · have ha4 := h4 i (by omega) (by omega)
                        have ha3 := h3 i (by omega) (by omega)
                        refine v_aload_n C dX7_finish_232 rfl ?_
                        refine v_iload C dX7_finish_233 rfl ?_
                        refine v_callVi C (q := (RX7, TX7, 33)) (As := [_]) (rest := []) (c_X7_differs hR ⟨by omega, by omega⟩ ⟨by omega, by omega⟩ (by rw [stl_at (Int.le_refl _)]; exact ⟨by omega, by omega⟩)) (cwV 1 hts gX7_finish_X7_differs rfl rfl rfl (by decide +kernel) ⟨Nat.le_of_ble_eq_true rfl, Nat.le_of_ble_eq_true rfl⟩) hR.1 rfl rfl rfl (Nat.le_of_ble_eq_true rfl) dX7_finish_235 (Nat.le_of_ble_eq_true rfl) (Nat.le_of_ble_eq_true rfl) (fun x_235 w hp => ?_)
                        obtain ⟨rfl, h235⟩ := hp
                        rw [stl_at (Int.le_refl _)] at h235
                        refine v_wide (k' := 0) (z' := 0) (Nat.le_refl _) (Nat.le_refl _) ?_
                        refine v_if_eq C (h235.r32) (tgt := 355) dX7_finish_238 (by decide) (fun c_238 => ?_) (fun c_238 => ?_)
                        · refine v_iinc C dX7_finish_355 rfl sl_6_5 (by decide) rfl ?_
                          refine v_goto C (tgt := 220) dX7_finish_358 (by decide) ?_
                          first
                            | (rw [stl_up i1.1] at hR
                               rw [hdr] at i3 i4 i5 i6 i7 i8 i9
                               rw [encL, putL_app, putL_app, List.length_append, Int.natCast_add, ← Int.add_assoc] at i3
                               rw [encL, List.length_append, List.length_append] at i4
                               exact ih _ (i + 1) _ _ _ _ _ _ _ _ hR hF ⟨by omega, by omega⟩ ⟨by omega, by omega⟩ i3 ⟨by omega, by omega⟩ ⟨by omega, by rw [List.length_cons] at i5; omega⟩ i6 i7 (by rw [← i8, stl_at (Int.le_refl _)]; rfl) i9 (by omega))
                            | (rw [stl_no (Classical.not_not.mp (h235.z c_238))] at hR
                               rw [show (64 * nw - i).toNat = (64 * nw - (i + 1)).toNat + 1 by omega, drF_eq (Classical.not_not.mp (h235.z c_238))] at i3 i4 i5 i6 i7 i8 i9
                               exact ih _ (i + 1) _ _ _ _ _ _ _ _ hR hF ⟨by omega, by omega⟩ ⟨by omega, by omega⟩ i3 i4 i5 i6 i7 i8 i9 (by omega))
                        · have hdr : drF A4 A3 (64 * nw - i).toNat i = i :: drF A4 A3 (64 * nw - (i + 1)).toNat (i + 1) := by
                              rw [show (64 * nw - i).toNat = (64 * nw - (i + 1)).toNat + 1 by omega, drF_ne (h235.nz c_238)]
                          have hd1 : 1 ≤ (drF A4 A3 (64 * nw - i).toNat i).length := by rw [hdr, List.length_cons]; omega
                          refine v_aload_n C dX7_finish_241 rfl ?_
                          refine v_iload C dX7_finish_242 rfl ?_
                          refine v_bipush C dX7_finish_244 rfl ?_
                          refine v_idiv C (⟨by omega, by omega⟩) (by omega) (⟨by omega, by omega⟩) (by omega) dX7_finish_246 ?_
                          refine v_iload_n C dX7_finish_247 rfl ?_
                          refine v_isub C dX7_finish_248 ?_
                          refine v_i2l C (⟨by omega, by omega⟩) dX7_finish_249 ?_
                          refine v_callVv C (q := (RX7, TX7, 33)) (As := [_]) (rest := []) (c_X7_write hR ⟨by omega, by omega⟩ ⟨by omega, by rw [hdr, encL, List.length_append, List.length_append] at i4; omega⟩) (cwV 1 hts gX7_finish_X7_write rfl rfl rfl (by decide +kernel) ⟨Nat.le_of_ble_eq_true rfl, Nat.le_of_ble_eq_true rfl⟩) hR.1 rfl rfl rfl (Nat.le_of_ble_eq_true rfl) dX7_finish_250 (Nat.le_of_ble_eq_true rfl) (Nat.le_of_ble_eq_true rfl) (fun w hp => ?_)
                          obtain ⟨hR, hF9⟩ := hp
                          have hF := hF.tr hF9
                          refine v_wide (k' := 0) (z' := 0) (Nat.le_refl _) (Nat.le_refl _) ?_
                          refine v_aload_n C dX7_finish_253 rfl ?_
                          refine v_iload C dX7_finish_254 rfl ?_
                          refine v_aload_n C dX7_finish_256 rfl ?_
                          refine v_getf C g16 hR.1 rfl dX7_finish_257 ?_
                          refine v_iload C dX7_finish_260 rfl ?_
                          refine v_iald C hR.a4 (⟨by omega, by omega⟩) (by omega) (by omega) dX7_finish_262 ?_
                          refine v_callSl C (b := 0) (t := 0) (ci := 0) (fs := []) (q := (RX7, TX7, 33)) (As := [_, _]) (rest := [_]) (c_X7_codeOf ⟨by omega, by omega⟩ ⟨by omega, by omega⟩) (va_cwS 2 hts gX7_finish_X7_codeOf rfl rfl rfl (by decide +kernel) ⟨Nat.le_of_ble_eq_true rfl, Nat.le_of_ble_eq_true rfl⟩) rfl rfl (Nat.le_of_ble_eq_true rfl) dX7_finish_263 (Nat.le_of_ble_eq_true rfl) (Nat.le_of_ble_eq_true rfl) (fun x_263 w hp => ?_)
                          obtain ⟨rfl, e263⟩ := hp
                          subst e263
                          refine v_wide (k' := 0) (z' := 0) (Nat.le_refl _) (Nat.le_refl _) ?_
                          refine v_callVv C (q := (RX7, TX7, 33)) (As := [_]) (rest := []) (c_X7_write hR ⟨by omega, by omega⟩ ⟨by omega, by rw [hdr, encL, List.length_append, List.length_append] at i4; omega⟩) (cwV 1 hts gX7_finish_X7_write rfl rfl rfl (by decide +kernel) ⟨Nat.le_of_ble_eq_true rfl, Nat.le_of_ble_eq_true rfl⟩) hR.1 rfl rfl rfl (Nat.le_of_ble_eq_true rfl) dX7_finish_266 (Nat.le_of_ble_eq_true rfl) (Nat.le_of_ble_eq_true rfl) (fun w hp => ?_)
                          obtain ⟨hR, hF9⟩ := hp
                          have hF := hF.tr hF9
                          refine v_wide (k' := 0) (z' := 0) (Nat.le_refl _) (Nat.le_refl _) ?_
                          refine v_iload C dX7_finish_269 rfl ?_
                          refine v_bipush C dX7_finish_271 rfl ?_
                          refine v_idiv C (⟨by omega, by omega⟩) (by omega) (⟨by omega, by omega⟩) (by omega) dX7_finish_273 ?_
                          refine v_istore_n C dX7_finish_274 sl_6_3 (by decide) rfl ?_
                          refine v_aload_n C dX7_finish_275 rfl ?_
                          refine v_getf C g29 hR.1 rfl dX7_finish_276 ?_
                          refine v_aload_n C dX7_finish_279 rfl ?_
                          refine v_getf C g133 hR.1 rfl dX7_finish_280 ?_
                          refine v_aload_n C dX7_finish_283 rfl ?_
                          refine v_getf C g88 hR.1 rfl dX7_finish_284 ?_
                          refine m_st_13 C hR (⟨by omega, by omega⟩) (by omega) (by omega) dX7_finish_287 (fun w hR hF9 => ?_)
                          have hF := hF.tr hF9
                          refine v_aload_n C dX7_finish_288 rfl ?_
                          refine v_getf C g32 hR.1 rfl dX7_finish_289 ?_
                          refine v_aload_n C dX7_finish_292 rfl ?_
                          refine v_getf C g133 hR.1 rfl dX7_finish_293 ?_
                          refine v_iload C dX7_finish_296 rfl ?_
                          refine m_st_14 C hR (⟨by omega, by omega⟩) (by omega) (by omega) dX7_finish_298 (fun w hR hF9 => ?_)
                          have hF := hF.tr hF9
                          refine v_aload_n C dX7_finish_299 rfl ?_
                          refine v_getf C g35 hR.1 rfl dX7_finish_300 ?_
                          refine v_aload_n C dX7_finish_303 rfl ?_
                          refine v_getf C g133 hR.1 rfl dX7_finish_304 ?_
                          refine v_aload_n C dX7_finish_307 rfl ?_
                          refine v_getf C g13 hR.1 rfl dX7_finish_308 ?_
                          refine v_iload C dX7_finish_311 rfl ?_
                          refine v_iald C hR.a3 (⟨by omega, by omega⟩) (by omega) (by omega) dX7_finish_313 ?_
                          refine m_st_15 C hR (⟨by omega, by omega⟩) (by omega) (by omega) dX7_finish_314 (fun w hR hF9 => ?_)
                          have hF := hF.tr hF9
                          refine v_aload_n C dX7_finish_315 rfl ?_
                          refine v_getf C g38 hR.1 rfl dX7_finish_316 ?_
                          refine v_aload_n C dX7_finish_319 rfl ?_
                          refine v_getf C g133 hR.1 rfl dX7_finish_320 ?_
                          refine v_aload_n C dX7_finish_323 rfl ?_
                          refine v_getf C g16 hR.1 rfl dX7_finish_324 ?_
                          refine v_iload C dX7_finish_327 rfl ?_
                          refine v_iald C hR.a4 (⟨by omega, by omega⟩) (by omega) (by omega) dX7_finish_329 ?_
                          refine m_st_16 C hR (⟨by omega, by omega⟩) (by omega) (by omega) dX7_finish_330 (fun w hR hF9 => ?_)
                          have hF := hF.tr hF9
                          refine v_aload_n C dX7_finish_331 rfl ?_
                          refine v_dup C rfl dX7_finish_332 ?_
                          refine v_getf C g133 hR.1 rfl dX7_finish_333 ?_
                          refine v_iconst C dX7_finish_336 ?_
                          refine v_iadd C dX7_finish_337 ?_
                          refine m_put_17 C p133 hR dX7_finish_338 (fun w hR hF9 => ?_)
                          have hF := hF.tr hF9
                          refine v_aload_n C dX7_finish_341 rfl ?_
                          refine v_getf C g13 hR.1 rfl dX7_finish_342 ?_
                          refine v_iload C dX7_finish_345 rfl ?_
                          refine v_aload_n C dX7_finish_347 rfl ?_
                          refine v_getf C g16 hR.1 rfl dX7_finish_348 ?_
                          refine v_iload C dX7_finish_351 rfl ?_
                          refine v_iald C hR.a4 (⟨by omega, by omega⟩) (by omega) (by omega) dX7_finish_353 ?_
                          refine m_st_3 C hR (⟨by omega, by omega⟩) (by omega) (by omega) dX7_finish_354 (fun w hR hF9 => ?_)
                          have hF := hF.tr hF9
                          refine v_iinc C dX7_finish_355 rfl sl_6_5 (by decide) rfl ?_
                          refine v_goto C (tgt := 220) dX7_finish_358 (by decide) ?_
                          first
                            | (rw [stl_up i1.1] at hR
                               rw [hdr] at i3 i4 i5 i6 i7 i8 i9
                               rw [encL, putL_app, putL_app, List.length_append, Int.natCast_add, ← Int.add_assoc] at i3
                               rw [encL, List.length_append, List.length_append] at i4
                               exact ih _ (i + 1) _ _ _ _ _ _ _ _ hR hF ⟨by omega, by omega⟩ ⟨by omega, by omega⟩ i3 ⟨by omega, by omega⟩ ⟨by omega, by rw [List.length_cons] at i5; omega⟩ i6 i7 (by rw [← i8, stl_at (Int.le_refl _)]; rfl) i9 (by omega))
                            | (rw [stl_no (Classical.not_not.mp (h235.z c_238))] at hR
                               rw [show (64 * nw - i).toNat = (64 * nw - (i + 1)).toNat + 1 by omega, drF_eq (Classical.not_not.mp (h235.z c_238))] at i3 i4 i5 i6 i7 i8 i9
                               exact ih _ (i + 1) _ _ _ _ _ _ _ _ hR hF ⟨by omega, by omega⟩ ⟨by omega, by omega⟩ i3 i4 i5 i6 i7 i8 i9 (by omega))
                  refine L220 _ _ 0 0 _ _ _ _ _ _ _ (by rw [stl_0]; exact hR) hF ⟨by omega, by omega⟩ ⟨by omega, by omega⟩ (by rw [Int.sub_zero, hT18]) ⟨by omega, by rw [Int.sub_zero, hE, hz1]; omega⟩ ⟨by omega, by rw [Int.sub_zero]⟩ (by rw [Int.sub_zero, hT13]) (by rw [Int.sub_zero, hT14]) (by rw [Int.sub_zero, hT15]) (by rw [Int.sub_zero, hT16]) (Nat.lt_succ_self _)
                refine v_iload C dX7_finish_170 rfl ?_
                refine v_if_ne C (h160.r32) (tgt := 183) dX7_finish_172 (by decide) (fun c_172 => ?_) (fun c_172 => ?_)
                · refine v_kill 4 sk_6_4 ?_
                  exact J183 _ _ _ hR hF (by rw [hhv1 (h160.nz c_172)]) (by rw [hhv1 (h160.nz c_172)])
                · refine v_aload_n C dX7_finish_175 rfl ?_
                  refine v_aload_n C dX7_finish_176 rfl ?_
                  refine v_getf C g103 hR.1 rfl dX7_finish_177 ?_
                  refine v_callVv C (q := (RX7, TX7, 33)) (As := [_]) (rest := []) (c_X7_write hR ⟨by omega, by omega⟩ ⟨by omega, by have h5 := hhv3 (h160.z c_172); rw [h5, List.length_append] at hE; omega⟩) (cwV 1 hts gX7_finish_X7_write rfl rfl rfl (by decide +kernel) ⟨Nat.le_of_ble_eq_true rfl, Nat.le_of_ble_eq_true rfl⟩) hR.1 rfl rfl rfl (Nat.le_of_ble_eq_true rfl) dX7_finish_180 (Nat.le_of_ble_eq_true rfl) (Nat.le_of_ble_eq_true rfl) (fun w hp => ?_)
                  obtain ⟨hR, hF9⟩ := hp
                  have hF := hF.tr hF9
                  refine v_wide (k' := 0) (z' := 0) (Nat.le_refl _) (Nat.le_refl _) ?_
                  refine v_kill 4 sk_6_4 ?_
                  exact J183 _ _ _ hR hF (by rw [hhv3 (h160.z c_172), List.length_append]; omega) (by rw [hhv3 (h160.z c_172), putL_app])
              refine v_aload_n C dX7_finish_143 rfl ?_
              refine v_getf C g93 hR.1 rfl dX7_finish_144 ?_
              refine v_aload_n C dX7_finish_147 rfl ?_
              refine v_callVl C (q := (RX7, TX7, 33)) (As := []) (rest := [_]) (c_X7_lastTime hR hm1) (cwV 0 hts gX7_finish_X7_lastTime rfl rfl rfl (by decide +kernel) ⟨Nat.le_of_ble_eq_true rfl, Nat.le_of_ble_eq_true rfl⟩) hR.1 rfl rfl rfl (Nat.le_of_ble_eq_true rfl) dX7_finish_148 (Nat.le_of_ble_eq_true rfl) (Nat.le_of_ble_eq_true rfl) (fun x_148 w hp => ?_)
              obtain ⟨rfl, e148⟩ := hp
              refine v_wide (k' := 0) (z' := 0) (Nat.le_refl _) (Nat.le_refl _) ?_
              refine v_lcmp_ne C (⟨by omega, by omega⟩) (by rw [e148]; exact ⟨by omega, by omega⟩) (tgt := 159) dX7_finish_151 dX7_finish_152 (by decide) (fun c_151 => ?_) (fun c_151 => ?_)
              · refine v_iconst C dX7_finish_159 ?_
                refine v_kill 2 sk_6_2 ?_
                refine v_kill 3 sk_6_3 ?_
                refine v_kill 4 sk_6_4 ?_
                exact J160 _ (Or.inr ⟨rfl, by rw [← e148]; exact c_151⟩)
              · refine v_iconst C dX7_finish_155 ?_
                refine v_goto C (tgt := 160) dX7_finish_156 (by decide) ?_
                refine v_kill 2 sk_6_2 ?_
                refine v_kill 3 sk_6_3 ?_
                refine v_kill 4 sk_6_4 ?_
                exact J160 _ (Or.inl ⟨rfl, by rw [← e148]; exact c_151⟩)
            · exfalso; omega
          · have ha4 := h4 i (by omega) (by omega)
            have ha3 := h3 i (by omega) (by omega)
            refine v_aload_n C dX7_finish_66 rfl ?_
            refine v_iload C dX7_finish_67 rfl ?_
            refine v_callVi C (q := (RX7, TX7, 33)) (As := [_]) (rest := []) (c_X7_differs hR ⟨by omega, by omega⟩ ⟨by omega, by omega⟩ ⟨by omega, by omega⟩) (cwV 1 hts gX7_finish_X7_differs rfl rfl rfl (by decide +kernel) ⟨Nat.le_of_ble_eq_true rfl, Nat.le_of_ble_eq_true rfl⟩) hR.1 rfl rfl rfl (Nat.le_of_ble_eq_true rfl) dX7_finish_69 (Nat.le_of_ble_eq_true rfl) (Nat.le_of_ble_eq_true rfl) (fun x_69 w hp => ?_)
            obtain ⟨rfl, h69⟩ := hp
            refine v_wide (k' := 0) (z' := 0) (Nat.le_refl _) (Nat.le_refl _) ?_
            refine v_if_eq C (h69.r32) (tgt := 111) dX7_finish_72 (by decide) (fun c_72 => ?_) (fun c_72 => ?_)
            · skip
              refine v_iinc C dX7_finish_111 rfl sl_6_4 (by decide) rfl ?_
              refine v_goto C (tgt := 54) dX7_finish_114 (by decide) ?_
              refine ih (i + 1) _ _ ⟨by omega, by omega⟩ ⟨by omega, by omega⟩ (by
                  first
                  | (rw [hdr, encL, List.length_append, List.length_append] at i3; omega)
                  | (rw [show (64 * nw - i).toNat = (64 * nw - (i + 1)).toNat + 1 by omega, drF_eq (Classical.not_not.mp (h69.z c_72))] at i3; exact i3)) (by omega)
            · have hdr : drF A4 A3 (64 * nw - i).toNat i = i :: drF A4 A3 (64 * nw - (i + 1)).toNat (i + 1) := by
                  rw [show (64 * nw - i).toNat = (64 * nw - (i + 1)).toNat + 1 by omega, drF_ne (h69.nz c_72)]
              refine v_iload_n C dX7_finish_75 rfl ?_
              refine v_iload C dX7_finish_76 rfl ?_
              refine v_bipush C dX7_finish_78 rfl ?_
              refine v_idiv C (⟨by omega, by omega⟩) (by omega) (⟨by omega, by omega⟩) (by omega) dX7_finish_80 ?_
              refine v_iload_n C dX7_finish_81 rfl ?_
              refine v_isub C dX7_finish_82 ?_
              refine v_i2l C (⟨by omega, by omega⟩) dX7_finish_83 ?_
              refine v_callSi C (b := 0) (t := 0) (ci := 0) (fs := []) (q := (RX7, TX7, 33)) (As := [_]) (rest := [_]) (c_X7_bytesOf ⟨by omega, by omega⟩) (va_cwS 1 hts gX7_finish_X7_bytesOf rfl rfl rfl (by decide +kernel) ⟨Nat.le_of_ble_eq_true rfl, Nat.le_of_ble_eq_true rfl⟩) rfl rfl (Nat.le_of_ble_eq_true rfl) dX7_finish_84 (Nat.le_of_ble_eq_true rfl) (Nat.le_of_ble_eq_true rfl) (fun x_84 w hp => ?_)
              obtain ⟨rfl, e84⟩ := hp
              refine v_wide (k' := 0) (z' := 0) (Nat.le_refl _) (Nat.le_refl _) ?_
              refine v_iadd C dX7_finish_87 ?_
              refine v_iload C dX7_finish_88 rfl ?_
              refine v_aload_n C dX7_finish_90 rfl ?_
              refine v_getf C g16 hR.1 rfl dX7_finish_91 ?_
              refine v_iload C dX7_finish_94 rfl ?_
              refine v_iald C hR.a4 (⟨by omega, by omega⟩) (by omega) (by omega) dX7_finish_96 ?_
              refine v_callSl C (b := 0) (t := 0) (ci := 0) (fs := []) (q := (RX7, TX7, 33)) (As := [_, _]) (rest := [_]) (c_X7_codeOf ⟨by omega, by omega⟩ ⟨by omega, by omega⟩) (va_cwS 2 hts gX7_finish_X7_codeOf rfl rfl rfl (by decide +kernel) ⟨Nat.le_of_ble_eq_true rfl, Nat.le_of_ble_eq_true rfl⟩) rfl rfl (Nat.le_of_ble_eq_true rfl) dX7_finish_97 (Nat.le_of_ble_eq_true rfl) (Nat.le_of_ble_eq_true rfl) (fun x_97 w hp => ?_)
              obtain ⟨rfl, e97⟩ := hp
              subst e97
              refine v_wide (k' := 0) (z' := 0) (Nat.le_refl _) (Nat.le_refl _) ?_
              refine v_callSi C (b := 0) (t := 0) (ci := 0) (fs := []) (q := (RX7, TX7, 33)) (As := [_]) (rest := [_]) (c_X7_bytesOf ⟨by omega, by omega⟩) (va_cwS 1 hts gX7_finish_X7_bytesOf rfl rfl rfl (by decide +kernel) ⟨Nat.le_of_ble_eq_true rfl, Nat.le_of_ble_eq_true rfl⟩) rfl rfl (Nat.le_of_ble_eq_true rfl) dX7_finish_100 (Nat.le_of_ble_eq_true rfl) (Nat.le_of_ble_eq_true rfl) (fun x_100 w hp => ?_)
              obtain ⟨rfl, e100⟩ := hp
              refine v_wide (k' := 0) (z' := 0) (Nat.le_refl _) (Nat.le_refl _) ?_
              refine v_iadd C dX7_finish_103 ?_
              refine v_istore_n C dX7_finish_104 sl_6_2 (by decide) rfl ?_
              refine v_iload C dX7_finish_105 rfl ?_
              refine v_bipush C dX7_finish_107 rfl ?_
              refine v_idiv C (⟨by omega, by omega⟩) (by omega) (⟨by omega, by omega⟩) (by omega) dX7_finish_109 ?_
              refine v_istore_n C dX7_finish_110 sl_6_3 (by decide) rfl ?_
              skip
              refine v_iinc C dX7_finish_111 rfl sl_6_4 (by decide) rfl ?_
              refine v_goto C (tgt := 54) dX7_finish_114 (by decide) ?_
              refine ih (i + 1) _ _ ⟨by omega, by omega⟩ ⟨by omega, by omega⟩ (by
                  first
                  | (rw [hdr, encL, List.length_append, List.length_append] at i3; omega)
                  | (rw [show (64 * nw - i).toNat = (64 * nw - (i + 1)).toNat + 1 by omega, drF_eq (Classical.not_not.mp (h69.z c_72))] at i3; exact i3)) (by omega)
      exact L54 _ 0 _ 0 ⟨by omega, by omega⟩ ⟨by omega, by omega⟩ (by
          rw [Int.sub_zero, hE, e15, e20, hq]
          by_cases q2 : ti = (if nm = 0 then 0 else A9 (nm - 1))
          · rw [hhv1 q2, if_pos q2]; omega
          · rw [hhv3 q2, if_neg q2, List.length_append]; omega) (Nat.lt_succ_self _)
    refine v_aload_n C dX7_finish_24 rfl ?_
    refine v_getf C g93 hR.1 rfl dX7_finish_25 ?_
    refine v_aload_n C dX7_finish_28 rfl ?_
    refine v_callVl C (q := (RX7, TX7, 33)) (As := []) (rest := [_, _]) (c_X7_lastTime hR hm1) (cwV 0 hts gX7_finish_X7_lastTime rfl rfl rfl (by decide +kernel) ⟨Nat.le_of_ble_eq_true rfl, Nat.le_of_ble_eq_true rfl⟩) hR.1 rfl rfl rfl (Nat.le_of_ble_eq_true rfl) dX7_finish_29 (Nat.le_of_ble_eq_true rfl) (Nat.le_of_ble_eq_true rfl) (fun x_29 w hp => ?_)
    obtain ⟨rfl, e29⟩ := hp
    refine v_wide (k' := 0) (z' := 0) (Nat.le_refl _) (Nat.le_refl _) ?_
    refine v_lcmp_ne C (⟨by omega, by omega⟩) (by rw [e29]; exact ⟨by omega, by omega⟩) (tgt := 40) dX7_finish_32 dX7_finish_33 (by decide) (fun c_32 => ?_) (fun c_32 => ?_)
    · refine v_aload_n C dX7_finish_40 rfl ?_
      refine v_getf C g103 hR.1 rfl dX7_finish_41 ?_
      refine v_callSi C (b := 0) (t := 0) (ci := 0) (fs := []) (q := (RX7, TX7, 33)) (As := [_]) (rest := [_]) (c_X7_bytesOf ⟨by omega, by omega⟩) (va_cwS 1 hts gX7_finish_X7_bytesOf rfl rfl rfl (by decide +kernel) ⟨Nat.le_of_ble_eq_true rfl, Nat.le_of_ble_eq_true rfl⟩) rfl rfl (Nat.le_of_ble_eq_true rfl) dX7_finish_44 (Nat.le_of_ble_eq_true rfl) (Nat.le_of_ble_eq_true rfl) (fun x_44 w hp => ?_)
      obtain ⟨rfl, e44⟩ := hp
      refine v_wide (k' := 0) (z' := 0) (Nat.le_refl _) (Nat.le_refl _) ?_
      exact J47 _ (by rw [if_neg (by rw [← e29]; exact c_32), e44])
    · refine v_iconst C dX7_finish_36 ?_
      refine v_goto C (tgt := 47) dX7_finish_37 (by decide) ?_
      exact J47 _ (by rw [if_pos (by rw [← e29]; exact c_32)])
  · refine v_iconst C dX7_finish_9 ?_
    exact v_iret C rfl dX7_finish_10 (Nat.le_refl _) (Nat.le_refl _) (hPO _ _ ⟨hF, Or.inl ⟨List.length_eq_zero_iff.mp (by omega), rfl, hR⟩⟩)
