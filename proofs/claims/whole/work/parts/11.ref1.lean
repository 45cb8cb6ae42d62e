theorem sj_5_3 {x0 x1 x2 x3 x4 : Option Value} {v : Value} : stJ [x0, x1, x2, x3, x4] 3 v = [x0, x1, x2, some v, none] := rfl
theorem sl_3_1 {x0 x1 x2 : Option Value} {v : Value} : stL [x0, x1, x2] 1 v = [x0, some v, x2] := rfl
theorem sl_3_2 {x0 x1 x2 : Option Value} {v : Value} : stL [x0, x1, x2] 2 v = [x0, x1, some v] := rfl
theorem sl_4_2 {x0 x1 x2 x3 : Option Value} {v : Value} : stL [x0, x1, x2, x3] 2 v = [x0, x1, some v, x3] := rfl
theorem sl_4_3 {x0 x1 x2 x3 : Option Value} {v : Value} : stL [x0, x1, x2, x3] 3 v = [x0, x1, x2, some v] := rfl
theorem sl_5_2 {x0 x1 x2 x3 x4 : Option Value} {v : Value} : stL [x0, x1, x2, x3, x4] 2 v = [x0, x1, some v, x3, x4] := rfl
set_option maxRecDepth 100000 in
set_option maxHeartbeats 8000000 in
theorem c_X7_thrown {G : GG} {l : Launch} {r : Nat} {ad : Nat → Nat} {w : Wd} {c0 nw op sm ti sp nm nc sz ts av fi wr rm rc : Int} {A1 A3 A4 A9 A10 A11 A13 A14 A15 A16 A18 A20 A25 A26 A27 A28 A30 A31 : Int → Int}  (hR : RefAt G r ad w c0 nw op sm ti sp nm nc sz ts av fi wr rm rc A1 A3 A4 A9 A10 A11 A13 A14 A15 A16 A18 A20 A25 A26 A27 A28 A30 A31)  : MG G l yX7_thrown wsX7_thrown 1 40 0 0 [.ref r] w (pI (fun (x : Int) (w' : Wd) => w' = w ∧ x = c0)) := by
  refine MG.of (cc := cX7_thrown) (nL := 1) (ret := (some .int)) (ll := [some (.ref r)]) (by decide) rfl (Nat.le_of_ble_eq_true rfl) rfl ?_
  intro p e s m args below meth c C
  have hts := C.2.2.2.2.1
  have g66 : GetF G s m args 66 10 0 := getF_of C 10 0 (T := TX7) (N := 33) (Cn := RX7) (ref := "TraceBookModel") rfl (by decide) (fun _ h => List.mem_cons_of_mem _ (List.mem_append_right _ (h))) (List.mem_of_getElem? (i := 1) rfl) (fun _ h => h)
  refine poI (P := fun PO => V G p l e _ s m args below meth c (MQW G below args s _ _ (pI PO)) w 0 0 0 _ []) (fun PO hPO => ?_)
  refine v_aload_n C dX7_thrown_0 rfl ?_
  refine v_getf C g66 hR.1 rfl dX7_thrown_1 ?_
  exact v_iret C rfl dX7_thrown_4 (Nat.le_refl _) (Nat.le_refl _) (hPO _ _ ⟨rfl, rfl⟩)
set_option maxRecDepth 100000 in
set_option maxHeartbeats 8000000 in
theorem c_X7_wires {G : GG} {l : Launch} {r : Nat} {ad : Nat → Nat} {w : Wd} {c0 nw op sm ti sp nm nc sz ts av fi wr rm rc : Int} {A1 A3 A4 A9 A10 A11 A13 A14 A15 A16 A18 A20 A25 A26 A27 A28 A30 A31 : Int → Int}  (hR : RefAt G r ad w c0 nw op sm ti sp nm nc sz ts av fi wr rm rc A1 A3 A4 A9 A10 A11 A13 A14 A15 A16 A18 A20 A25 A26 A27 A28 A30 A31)  : MG G l yX7_wires wsX7_wires 1 40 0 0 [.ref r] w (pI (fun (x : Int) (w' : Wd) => x = nw ∧ RefAt G r ad w' 0 nw op sm ti sp nm nc sz ts av fi wr rm rc A1 A3 A4 A9 A10 A11 A13 A14 A15 A16 A18 A20 A25 A26 A27 A28 A30 A31 ∧ Fr mT w w')) := by
  refine MG.of (cc := cX7_wires) (nL := 1) (ret := (some .int)) (ll := [some (.ref r)]) (by decide) rfl (Nat.le_of_ble_eq_true rfl) rfl ?_
  intro p e s m args below meth c C
  have hts := C.2.2.2.2.1
  have p66 : PutF G s m args 66 10 0 (.int) := putF_of C 10 0 tyX7 tyX7_ok nmX7 (T := TX7) (N := 33) (Cn := RX7) (ref := "TraceBookModel") rfl (by decide) (fun _ h => List.mem_cons_of_mem _ (List.mem_append_right _ (h))) (List.mem_of_getElem? (i := 1) rfl) (fun _ h => h) rfl (by decide +kernel)
  have g70 : GetF G s m args 70 10 2 := getF_of C 10 2 (T := TX7) (N := 33) (Cn := RX7) (ref := "TraceBookModel") rfl (by decide) (fun _ h => List.mem_cons_of_mem _ (List.mem_append_right _ (h))) (List.mem_of_getElem? (i := 2) rfl) (fun _ h => h)
  refine poI (P := fun PO => V G p l e _ s m args below meth c (MQW G below args s _ _ (pI PO)) w 0 0 0 _ []) (fun PO hPO => ?_)
  obtain ⟨w0, hw0⟩ : ∃ z, z = w := ⟨_, rfl⟩
  rw [← hw0] at hPO
  have hF : Fr mT w0 w := by rw [hw0]; exact Fr.rf
  refine v_aload_n C dX7_wires_0 rfl ?_
  refine v_iconst C dX7_wires_1 ?_
  refine m_put_0 C p66 hR dX7_wires_2 (fun w hR hF9 => ?_)
  have hF := hF.tr hF9
  refine v_aload_n C dX7_wires_5 rfl ?_
  refine v_getf C g70 hR.1 rfl dX7_wires_6 ?_
  exact v_iret C rfl dX7_wires_9 (Nat.le_refl _) (Nat.le_refl _) (hPO _ _ ⟨rfl, hR, hF⟩)
set_option maxRecDepth 100000 in
set_option maxHeartbeats 8000000 in
theorem c_X7_moments {G : GG} {l : Launch} {r : Nat} {ad : Nat → Nat} {w : Wd} {c0 nw op sm ti sp nm nc sz ts av fi wr rm rc : Int} {A1 A3 A4 A9 A10 A11 A13 A14 A15 A16 A18 A20 A25 A26 A27 A28 A30 A31 : Int → Int}  (hR : RefAt G r ad w c0 nw op sm ti sp nm nc sz ts av fi wr rm rc A1 A3 A4 A9 A10 A11 A13 A14 A15 A16 A18 A20 A25 A26 A27 A28 A30 A31)  : MG G l yX7_moments wsX7_moments 1 40 0 0 [.ref r] w (pI (fun (x : Int) (w' : Wd) => x = nm ∧ RefAt G r ad w' 0 nw op sm ti sp nm nc sz ts av fi wr rm rc A1 A3 A4 A9 A10 A11 A13 A14 A15 A16 A18 A20 A25 A26 A27 A28 A30 A31 ∧ Fr mT w w')) := by
  refine MG.of (cc := cX7_moments) (nL := 1) (ret := (some .int)) (ll := [some (.ref r)]) (by decide) rfl (Nat.le_of_ble_eq_true rfl) rfl ?_
  intro p e s m args below meth c C
  have hts := C.2.2.2.2.1
  have p66 : PutF G s m args 66 10 0 (.int) := putF_of C 10 0 tyX7 tyX7_ok nmX7 (T := TX7) (N := 33) (Cn := RX7) (ref := "TraceBookModel") rfl (by decide) (fun _ h => List.mem_cons_of_mem _ (List.mem_append_right _ (h))) (List.mem_of_getElem? (i := 1) rfl) (fun _ h => h) rfl (by decide +kernel)
  have g88 : GetF G s m args 88 10 12 := getF_of C 10 12 (T := TX7) (N := 33) (Cn := RX7) (ref := "TraceBookModel") rfl (by decide) (fun _ h => List.mem_cons_of_mem _ (List.mem_append_right _ (h))) (List.mem_of_getElem? (i := 2) rfl) (fun _ h => h)
  refine poI (P := fun PO => V G p l e _ s m args below meth c (MQW G below args s _ _ (pI PO)) w 0 0 0 _ []) (fun PO hPO => ?_)
  obtain ⟨w0, hw0⟩ : ∃ z, z = w := ⟨_, rfl⟩
  rw [← hw0] at hPO
  have hF : Fr mT w0 w := by rw [hw0]; exact Fr.rf
  refine v_aload_n C dX7_moments_0 rfl ?_
  refine v_iconst C dX7_moments_1 ?_
  refine m_put_0 C p66 hR dX7_moments_2 (fun w hR hF9 => ?_)
  have hF := hF.tr hF9
  refine v_aload_n C dX7_moments_5 rfl ?_
  refine v_getf C g88 hR.1 rfl dX7_moments_6 ?_
  exact v_iret C rfl dX7_moments_9 (Nat.le_refl _) (Nat.le_refl _) (hPO _ _ ⟨rfl, hR, hF⟩)
set_option maxRecDepth 100000 in
set_option maxHeartbeats 8000000 in
theorem c_X7_size {G : GG} {l : Launch} {r : Nat} {ad : Nat → Nat} {w : Wd} {c0 nw op sm ti sp nm nc sz ts av fi wr rm rc : Int} {A1 A3 A4 A9 A10 A11 A13 A14 A15 A16 A18 A20 A25 A26 A27 A28 A30 A31 : Int → Int}  (hR : RefAt G r ad w c0 nw op sm ti sp nm nc sz ts av fi wr rm rc A1 A3 A4 A9 A10 A11 A13 A14 A15 A16 A18 A20 A25 A26 A27 A28 A30 A31)  : MG G l yX7_size wsX7_size 1 40 0 0 [.ref r] w (pI (fun (x : Int) (w' : Wd) => x = sz ∧ RefAt G r ad w' 0 nw op sm ti sp nm nc sz ts av fi wr rm rc A1 A3 A4 A9 A10 A11 A13 A14 A15 A16 A18 A20 A25 A26 A27 A28 A30 A31 ∧ Fr mT w w')) := by
  refine MG.of (cc := cX7_size) (nL := 1) (ret := (some .int)) (ll := [some (.ref r)]) (by decide) rfl (Nat.le_of_ble_eq_true rfl) rfl ?_
  intro p e s m args below meth c C
  have hts := C.2.2.2.2.1
  have p66 : PutF G s m args 66 10 0 (.int) := putF_of C 10 0 tyX7 tyX7_ok nmX7 (T := TX7) (N := 33) (Cn := RX7) (ref := "TraceBookModel") rfl (by decide) (fun _ h => List.mem_cons_of_mem _ (List.mem_append_right _ (h))) (List.mem_of_getElem? (i := 1) rfl) (fun _ h => h) rfl (by decide +kernel)
  have g85 : GetF G s m args 85 10 19 := getF_of C 10 19 (T := TX7) (N := 33) (Cn := RX7) (ref := "TraceBookModel") rfl (by decide) (fun _ h => List.mem_cons_of_mem _ (List.mem_append_right _ (h))) (List.mem_of_getElem? (i := 2) rfl) (fun _ h => h)
  refine poI (P := fun PO => V G p l e _ s m args below meth c (MQW G below args s _ _ (pI PO)) w 0 0 0 _ []) (fun PO hPO => ?_)
  obtain ⟨w0, hw0⟩ : ∃ z, z = w := ⟨_, rfl⟩
  rw [← hw0] at hPO
  have hF : Fr mT w0 w := by rw [hw0]; exact Fr.rf
  refine v_aload_n C dX7_size_0 rfl ?_
  refine v_iconst C dX7_size_1 ?_
  refine m_put_0 C p66 hR dX7_size_2 (fun w hR hF9 => ?_)
  have hF := hF.tr hF9
  refine v_aload_n C dX7_size_5 rfl ?_
  refine v_getf C g85 hR.1 rfl dX7_size_6 ?_
  exact v_iret C rfl dX7_size_9 (Nat.le_refl _) (Nat.le_refl _) (hPO _ _ ⟨rfl, hR, hF⟩)
set_option maxRecDepth 100000 in
set_option maxHeartbeats 8000000 in
theorem c_X7_none {G : GG} {l : Launch} {r : Nat} {ad : Nat → Nat} {w : Wd} {c0 nw op sm ti sp nm nc sz ts av fi wr rm rc : Int} {A1 A3 A4 A9 A10 A11 A13 A14 A15 A16 A18 A20 A25 A26 A27 A28 A30 A31 : Int → Int} {i : Int} (hR : RefAt G r ad w c0 nw op sm ti sp nm nc sz ts av fi wr rm rc A1 A3 A4 A9 A10 A11 A13 A14 A15 A16 A18 A20 A25 A26 A27 A28 A30 A31) (h0 : 0 ≤ nw ∧ nw ≤ 200) (hi : R32 i) : MG G l yX7_none wsX7_none 1 40 0 0 [.ref r, .int (iI i)] w (pI (fun (x : Int) (w' : Wd) => w' = w ∧ BP x (i < 0 ∨ nw ≤ i))) := by
  refine MG.of (cc := cX7_none) (nL := 2) (ret := (some .boolean)) (ll := [some (.ref r), some (.int (iI i))]) (by decide) rfl (Nat.le_of_ble_eq_true rfl) rfl ?_
  intro p e s m args below meth c C
  have hts := C.2.2.2.2.1
  have g70 : GetF G s m args 70 10 2 := getF_of C 10 2 (T := TX7) (N := 33) (Cn := RX7) (ref := "TraceBookModel") rfl (by decide) (fun _ h => List.mem_cons_of_mem _ (List.mem_append_right _ (h))) (List.mem_of_getElem? (i := 1) rfl) (fun _ h => h)
  refine poI (P := fun PO => V G p l e _ s m args below meth c (MQW G below args s _ _ (pI PO)) w 0 0 0 _ []) (fun PO hPO => ?_)
  refine v_iload_n C dX7_none_0 rfl ?_
  refine v_if_lt C (⟨by omega, by omega⟩) (tgt := 12) dX7_none_1 (by decide) (fun c_1 => ?_) (fun c_1 => ?_)
  · refine v_iconst C dX7_none_12 ?_
    refine v_goto C (tgt := 17) dX7_none_13 (by decide) ?_
    exact v_zret C rfl (by omega) dX7_none_17 (Nat.le_refl _) (Nat.le_refl _) (hPO _ _ ⟨rfl, Or.inl ⟨rfl, by omega⟩⟩)
  · refine v_iload_n C dX7_none_4 rfl ?_
    refine v_aload_n C dX7_none_5 rfl ?_
    refine v_getf C g70 hR.1 rfl dX7_none_6 ?_
    refine v_icmp_lt C (⟨by omega, by omega⟩) (⟨by omega, by omega⟩) (tgt := 16) dX7_none_9 (by decide) (fun c_9 => ?_) (fun c_9 => ?_)
    · refine v_iconst C dX7_none_16 ?_
      exact v_zret C rfl (by omega) dX7_none_17 (Nat.le_refl _) (Nat.le_refl _) (hPO _ _ ⟨rfl, Or.inr ⟨rfl, by omega⟩⟩)
    · refine v_iconst C dX7_none_12 ?_
      refine v_goto C (tgt := 17) dX7_none_13 (by decide) ?_
      exact v_zret C rfl (by omega) dX7_none_17 (Nat.le_refl _) (Nat.le_refl _) (hPO _ _ ⟨rfl, Or.inl ⟨rfl, by omega⟩⟩)
set_option maxRecDepth 100000 in
set_option maxHeartbeats 8000000 in
theorem c_X7_lastTime {G : GG} {l : Launch} {r : Nat} {ad : Nat → Nat} {w : Wd} {c0 nw op sm ti sp nm nc sz ts av fi wr rm rc : Int} {A1 A3 A4 A9 A10 A11 A13 A14 A15 A16 A18 A20 A25 A26 A27 A28 A30 A31 : Int → Int}  (hR : RefAt G r ad w c0 nw op sm ti sp nm nc sz ts av fi wr rm rc A1 A3 A4 A9 A10 A11 A13 A14 A15 A16 A18 A20 A25 A26 A27 A28 A30 A31) (h0 : 0 ≤ nm ∧ nm ≤ 15001) : MG G l yX7_lastTime wsX7_lastTime 1 40 0 0 [.ref r] w (pL (fun (x : Int) (w' : Wd) => w' = w ∧ x = (if nm = 0 then 0 else A9 (nm - 1)))) := by
  refine MG.of (cc := cX7_lastTime) (nL := 1) (ret := (some .long)) (ll := [some (.ref r)]) (by decide) rfl (Nat.le_of_ble_eq_true rfl) rfl ?_
  intro p e s m args below meth c C
  have hts := C.2.2.2.2.1
  have g88 : GetF G s m args 88 10 12 := getF_of C 10 12 (T := TX7) (N := 33) (Cn := RX7) (ref := "TraceBookModel") rfl (by decide) (fun _ h => List.mem_cons_of_mem _ (List.mem_append_right _ (h))) (List.mem_of_getElem? (i := 1) rfl) (fun _ h => h)
  have g19 : GetF G s m args 19 10 9 := getF_of C 10 9 (T := TX7) (N := 33) (Cn := RX7) (ref := "TraceBookModel") rfl (by decide) (fun _ h => List.mem_cons_of_mem _ (List.mem_append_right _ (h))) (List.mem_of_getElem? (i := 2) rfl) (fun _ h => h)
  refine poI (P := fun PO => V G p l e _ s m args below meth c (MQW G below args s _ _ (pL PO)) w 0 0 0 _ []) (fun PO hPO => ?_)
  refine v_aload_n C dX7_lastTime_0 rfl ?_
  refine v_getf C g88 hR.1 rfl dX7_lastTime_1 ?_
  refine v_if_ne C (⟨by omega, by omega⟩) (tgt := 11) dX7_lastTime_4 (by decide) (fun c_4 => ?_) (fun c_4 => ?_)
  · refine v_aload_n C dX7_lastTime_11 rfl ?_
    refine v_getf C g19 hR.1 rfl dX7_lastTime_12 ?_
    refine v_aload_n C dX7_lastTime_15 rfl ?_
    refine v_getf C g88 hR.1 rfl dX7_lastTime_16 ?_
    refine v_iconst C dX7_lastTime_19 ?_
    refine v_isub C dX7_lastTime_20 ?_
    refine v_lald C hR.a9 (⟨by omega, by omega⟩) (by omega) (by omega) dX7_lastTime_21 ?_
    exact v_lret C rfl dX7_lastTime_22 (Nat.le_refl _) (Nat.le_refl _) (hPO _ _ ⟨rfl, by rw [if_neg c_4]⟩)
  · refine v_lconst C (v := 0) dX7_lastTime_7 rfl ?_
    refine v_goto C (tgt := 22) dX7_lastTime_8 (by decide) ?_
    exact v_lret C rfl dX7_lastTime_22 (Nat.le_refl _) (Nat.le_refl _) (hPO _ _ ⟨rfl, by rw [if_pos c_4]⟩)
set_option maxRecDepth 100000 in
set_option maxHeartbeats 8000000 in
theorem c_X7_lastStep {G : GG} {l : Launch} {r : Nat} {ad : Nat → Nat} {w : Wd} {c0 nw op sm ti sp nm nc sz ts av fi wr rm rc : Int} {A1 A3 A4 A9 A10 A11 A13 A14 A15 A16 A18 A20 A25 A26 A27 A28 A30 A31 : Int → Int}  (hR : RefAt G r ad w c0 nw op sm ti sp nm nc sz ts av fi wr rm rc A1 A3 A4 A9 A10 A11 A13 A14 A15 A16 A18 A20 A25 A26 A27 A28 A30 A31) (h0 : 0 ≤ nm ∧ nm ≤ 15001) : MG G l yX7_lastStep wsX7_lastStep 1 40 0 0 [.ref r] w (pL (fun (x : Int) (w' : Wd) => w' = w ∧ x = (if nm = 0 then -1 else A10 (nm - 1)))) := by
  refine MG.of (cc := cX7_lastStep) (nL := 1) (ret := (some .long)) (ll := [some (.ref r)]) (by decide) rfl (Nat.le_of_ble_eq_true rfl) rfl ?_
  intro p e s m args below meth c C
  have hts := C.2.2.2.2.1
  have g88 : GetF G s m args 88 10 12 := getF_of C 10 12 (T := TX7) (N := 33) (Cn := RX7) (ref := "TraceBookModel") rfl (by decide) (fun _ h => List.mem_cons_of_mem _ (List.mem_append_right _ (h))) (List.mem_of_getElem? (i := 1) rfl) (fun _ h => h)
  have g23 : GetF G s m args 23 10 10 := getF_of C 10 10 (T := TX7) (N := 33) (Cn := RX7) (ref := "TraceBookModel") rfl (by decide) (fun _ h => List.mem_cons_of_mem _ (List.mem_append_right _ (h))) (List.mem_of_getElem? (i := 3) rfl) (fun _ h => h)
  refine poI (P := fun PO => V G p l e _ s m args below meth c (MQW G below args s _ _ (pL PO)) w 0 0 0 _ []) (fun PO hPO => ?_)
  refine v_aload_n C dX7_lastStep_0 rfl ?_
  refine v_getf C g88 hR.1 rfl dX7_lastStep_1 ?_
  refine v_if_ne C (⟨by omega, by omega⟩) (tgt := 13) dX7_lastStep_4 (by decide) (fun c_4 => ?_) (fun c_4 => ?_)
  · refine v_aload_n C dX7_lastStep_13 rfl ?_
    refine v_getf C g23 hR.1 rfl dX7_lastStep_14 ?_
    refine v_aload_n C dX7_lastStep_17 rfl ?_
    refine v_getf C g88 hR.1 rfl dX7_lastStep_18 ?_
    refine v_iconst C dX7_lastStep_21 ?_
    refine v_isub C dX7_lastStep_22 ?_
    refine v_lald C hR.a10 (⟨by omega, by omega⟩) (by omega) (by omega) dX7_lastStep_23 ?_
    exact v_lret C rfl dX7_lastStep_24 (Nat.le_refl _) (Nat.le_refl _) (hPO _ _ ⟨rfl, by rw [if_neg c_4]⟩)
  · refine v_ldc2 C (v := -1) (List.mem_of_getElem? (i := 2) rfl) (by decide +kernel) dX7_lastStep_7 ?_
    refine v_goto C (tgt := 24) dX7_lastStep_10 (by decide) ?_
    exact v_lret C rfl dX7_lastStep_24 (Nat.le_refl _) (Nat.le_refl _) (hPO _ _ ⟨rfl, by rw [if_pos c_4]⟩)
set_option maxRecDepth 100000 in
set_option maxHeartbeats 8000000 in
theorem c_X7_head {G : GG} {l : Launch} {r : Nat} {ad : Nat → Nat} {w : Wd} {c0 nw op sm ti sp nm nc sz ts av fi wr rm rc : Int} {A1 A3 A4 A9 A10 A11 A13 A14 A15 A16 A18 A20 A25 A26 A27 A28 A30 A31 : Int → Int}  (hR : RefAt G r ad w c0 nw op sm ti sp nm nc sz ts av fi wr rm rc A1 A3 A4 A9 A10 A11 A13 A14 A15 A16 A18 A20 A25 A26 A27 A28 A30 A31) (hm : 0 ≤ nm ∧ nm ≤ 15001) (h1 : R64 (if nm = 0 then 0 else A9 (nm - 1))) (h2 : R64 ti) : MG G l yX7_head wsX7_head 2 80 0 0 [.ref r] w (pL (fun (x : Int) (w' : Wd) => w' = w ∧ x = (if ti = (if nm = 0 then 0 else A9 (nm - 1)) then 2 * (sp - (if nm = 0 then -1 else A10 (nm - 1))) + 1 else 2 * (ti - (if nm = 0 then 0 else A9 (nm - 1)))))) := by
  refine MG.of (cc := cX7_head) (nL := 1) (ret := (some .long)) (ll := [some (.ref r)]) (by decide) rfl (Nat.le_of_ble_eq_true rfl) rfl ?_
  intro p e s m args below meth c C
  have hts := C.2.2.2.2.1
  have g93 : GetF G s m args 93 10 7 := getF_of C 10 7 (T := TX7) (N := 33) (Cn := RX7) (ref := "TraceBookModel") rfl (by decide) (fun _ h => List.mem_cons_of_mem _ (List.mem_append_right _ (h))) (List.mem_of_getElem? (i := 1) rfl) (fun _ h => h)
  have g103 : GetF G s m args 103 10 8 := getF_of C 10 8 (T := TX7) (N := 33) (Cn := RX7) (ref := "TraceBookModel") rfl (by decide) (fun _ h => List.mem_cons_of_mem _ (List.mem_append_right _ (h))) (List.mem_of_getElem? (i := 3) rfl) (fun _ h => h)
  refine poI (P := fun PO => V G p l e _ s m args below meth c (MQW G below args s _ _ (pL PO)) w 0 0 0 _ []) (fun PO hPO => ?_)
  refine v_aload_n C dX7_head_0 rfl ?_
  refine v_getf C g93 hR.1 rfl dX7_head_1 ?_
  refine v_aload_n C dX7_head_4 rfl ?_
  refine v_callVl C (q := (RX7, TX7, 33)) (As := []) (rest := [_]) (c_X7_lastTime hR hm) (cwV 0 hts gX7_head_X7_lastTime rfl rfl rfl (by decide +kernel) ⟨Nat.le_of_ble_eq_true rfl, Nat.le_of_ble_eq_true rfl⟩) hR.1 rfl rfl rfl (Nat.le_of_ble_eq_true rfl) dX7_head_5 (Nat.le_of_ble_eq_true rfl) (Nat.le_of_ble_eq_true rfl) (fun x_5 w hp => ?_)
  obtain ⟨rfl, e5⟩ := hp
  refine v_wide (k' := 0) (z' := 0) (Nat.le_refl _) (Nat.le_refl _) ?_
  refine v_lcmp_ne C (⟨by omega, by omega⟩) (by rw [e5]; exact h1) (tgt := 30) dX7_head_8 dX7_head_9 (by decide) (fun c_8 => ?_) (fun c_8 => ?_)
  · refine v_ldc2 C (v := 2) (List.mem_of_getElem? (i := 2) rfl) (by decide +kernel) dX7_head_30 ?_
    refine v_aload_n C dX7_head_33 rfl ?_
    refine v_getf C g93 hR.1 rfl dX7_head_34 ?_
    refine v_aload_n C dX7_head_37 rfl ?_
    refine v_callVl C (q := (RX7, TX7, 33)) (As := []) (rest := [_, _]) (c_X7_lastTime hR hm) (cwV 0 hts gX7_head_X7_lastTime rfl rfl rfl (by decide +kernel) ⟨Nat.le_of_ble_eq_true rfl, Nat.le_of_ble_eq_true rfl⟩) hR.1 rfl rfl rfl (Nat.le_of_ble_eq_true rfl) dX7_head_38 (Nat.le_of_ble_eq_true rfl) (Nat.le_of_ble_eq_true rfl) (fun x_38 w hp => ?_)
    obtain ⟨rfl, e38⟩ := hp
    refine v_wide (k' := 0) (z' := 0) (Nat.le_refl _) (Nat.le_refl _) ?_
    refine v_lsub C dX7_head_41 ?_
    refine v_lmul C dX7_head_42 ?_
    exact v_lret C rfl dX7_head_43 (Nat.le_refl _) (Nat.le_refl _) (hPO _ _ ⟨rfl, by rw [if_neg (by rw [← e5]; exact c_8), e38]⟩)
  · refine v_ldc2 C (v := 2) (List.mem_of_getElem? (i := 2) rfl) (by decide +kernel) dX7_head_12 ?_
    refine v_aload_n C dX7_head_15 rfl ?_
    refine v_getf C g103 hR.1 rfl dX7_head_16 ?_
    refine v_aload_n C dX7_head_19 rfl ?_
    refine v_callVl C (q := (RX7, TX7, 33)) (As := []) (rest := [_, _]) (c_X7_lastStep hR hm) (cwV 0 hts gX7_head_X7_lastStep rfl rfl rfl (by decide +kernel) ⟨Nat.le_of_ble_eq_true rfl, Nat.le_of_ble_eq_true rfl⟩) hR.1 rfl rfl rfl (Nat.le_of_ble_eq_true rfl) dX7_head_20 (Nat.le_of_ble_eq_true rfl) (Nat.le_of_ble_eq_true rfl) (fun x_20 w hp => ?_)
    obtain ⟨rfl, e20⟩ := hp
    refine v_wide (k' := 0) (z' := 0) (Nat.le_refl _) (Nat.le_refl _) ?_
    refine v_lsub C dX7_head_23 ?_
    refine v_lmul C dX7_head_24 ?_
    refine v_lconst C (v := 1) dX7_head_25 rfl ?_
    refine v_ladd C dX7_head_26 ?_
    refine v_goto C (tgt := 43) dX7_head_27 (by decide) ?_
    exact v_lret C rfl dX7_head_43 (Nat.le_refl _) (Nat.le_refl _) (hPO _ _ ⟨rfl, by rw [if_pos (by rw [← e5]; exact c_8), e20]⟩)
set_option maxRecDepth 100000 in
set_option maxHeartbeats 8000000 in
theorem c_X7_differs {G : GG} {l : Launch} {r : Nat} {ad : Nat → Nat} {w : Wd} {c0 nw op sm ti sp nm nc sz ts av fi wr rm rc : Int} {A1 A3 A4 A9 A10 A11 A13 A14 A15 A16 A18 A20 A25 A26 A27 A28 A30 A31 : Int → Int} {i : Int} (hR : RefAt G r ad w c0 nw op sm ti sp nm nc sz ts av fi wr rm rc A1 A3 A4 A9 A10 A11 A13 A14 A15 A16 A18 A20 A25 A26 A27 A28 A30 A31) (h0 : 0 ≤ i ∧ i < 12800) (h4 : R32 (A4 i)) (h3 : R32 (A3 i)) : MG G l yX7_differs wsX7_differs 1 40 0 0 [.ref r, .int (iI i)] w (pI (fun (x : Int) (w' : Wd) => w' = w ∧ BP x (¬ A4 i = A3 i))) := by
  refine MG.of (cc := cX7_differs) (nL := 2) (ret := (some .boolean)) (ll := [some (.ref r), some (.int (iI i))]) (by decide) rfl (Nat.le_of_ble_eq_true rfl) rfl ?_
  intro p e s m args below meth c C
  have hts := C.2.2.2.2.1
  have g16 : GetF G s m args 16 10 4 := getF_of C 10 4 (T := TX7) (N := 33) (Cn := RX7) (ref := "TraceBookModel") rfl (by decide) (fun _ h => List.mem_cons_of_mem _ (List.mem_append_right _ (h))) (List.mem_of_getElem? (i := 1) rfl) (fun _ h => h)
  have g13 : GetF G s m args 13 10 3 := getF_of C 10 3 (T := TX7) (N := 33) (Cn := RX7) (ref := "TraceBookModel") rfl (by decide) (fun _ h => List.mem_cons_of_mem _ (List.mem_append_right _ (h))) (List.mem_of_getElem? (i := 2) rfl) (fun _ h => h)
  refine poI (P := fun PO => V G p l e _ s m args below meth c (MQW G below args s _ _ (pI PO)) w 0 0 0 _ []) (fun PO hPO => ?_)
  refine v_aload_n C dX7_differs_0 rfl ?_
  refine v_getf C g16 hR.1 rfl dX7_differs_1 ?_
  refine v_iload_n C dX7_differs_4 rfl ?_
  refine v_iald C hR.a4 (⟨by omega, by omega⟩) (by omega) (by omega) dX7_differs_5 ?_
  refine v_aload_n C dX7_differs_6 rfl ?_
  refine v_getf C g13 hR.1 rfl dX7_differs_7 ?_
  refine v_iload_n C dX7_differs_10 rfl ?_
  refine v_iald C hR.a3 (⟨by omega, by omega⟩) (by omega) (by omega) dX7_differs_11 ?_
  refine v_icmp_eq C (h4) (h3) (tgt := 19) dX7_differs_12 (by decide) (fun c_12 => ?_) (fun c_12 => ?_)
  · refine v_iconst C dX7_differs_19 ?_
    exact v_zret C rfl (by omega) dX7_differs_20 (Nat.le_refl _) (Nat.le_refl _) (hPO _ _ ⟨rfl, Or.inr ⟨rfl, fun q => q c_12⟩⟩)
  · refine v_iconst C dX7_differs_15 ?_
    refine v_goto C (tgt := 20) dX7_differs_16 (by decide) ?_
    exact v_zret C rfl (by omega) dX7_differs_20 (Nat.le_refl _) (Nat.le_refl _) (hPO _ _ ⟨rfl, Or.inl ⟨rfl, c_12⟩⟩)
set_option maxRecDepth 100000 in
set_option maxHeartbeats 8000000 in
theorem c_X7_many {G : GG} {l : Launch} {r : Nat} {ad : Nat → Nat} {w : Wd} {c0 nw op sm ti sp nm nc sz ts av fi wr rm rc : Int} {A1 A3 A4 A9 A10 A11 A13 A14 A15 A16 A18 A20 A25 A26 A27 A28 A30 A31 : Int → Int}  (hR : RefAt G r ad w c0 nw op sm ti sp nm nc sz ts av fi wr rm rc A1 A3 A4 A9 A10 A11 A13 A14 A15 A16 A18 A20 A25 A26 A27 A28 A30 A31) (h0 : 0 ≤ nw ∧ nw ≤ 200) (h4 : ∀ i, 0 ≤ i → i < 12800 → R32 (A4 i)) (h3 : ∀ i, 0 ≤ i → i < 12800 → R32 (A3 i)) : MG G l yX7_many wsX7_many 2 80 0 0 [.ref r] w (pI (fun (x : Int) (w' : Wd) => w' = w ∧ x = (drF A4 A3 (64 * nw).toNat 0).length)) := by
  refine MG.of (cc := cX7_many) (nL := 3) (ret := (some .int)) (ll := [some (.ref r), none, none]) (by decide) rfl (Nat.le_of_ble_eq_true rfl) rfl ?_
  intro p e s m args below meth c C
  have hts := C.2.2.2.2.1
  have g70 : GetF G s m args 70 10 2 := getF_of C 10 2 (T := TX7) (N := 33) (Cn := RX7) (ref := "TraceBookModel") rfl (by decide) (fun _ h => List.mem_cons_of_mem _ (List.mem_append_right _ (h))) (List.mem_of_getElem? (i := 1) rfl) (fun _ h => h)
  refine poI (P := fun PO => V G p l e _ s m args below meth c (MQW G below args s _ _ (pI PO)) w 0 0 0 _ []) (fun PO hPO => ?_)
  refine v_iconst C dX7_many_0 ?_
  refine v_istore_n C dX7_many_1 sl_3_1 (by decide) rfl ?_
  refine v_iconst C dX7_many_2 ?_
  refine v_istore_n C dX7_many_3 sl_3_2 (by decide) rfl ?_
  have L4 : ∀ (N : Nat) (i n : Int), (0 ≤ i ∧ i ≤ 64 * nw) → (n + (drF A4 A3 (64 * nw - i).toNat i).length = (drF A4 A3 (64 * nw).toNat 0).length) → (64 * nw - i).toNat < N → V G p l e { frames := 2, cells := 0, slots := 0, locals := 80 } s m args below meth c (MQW G below args s 0 0 (pI PO)) w 0 0 4 [some (.ref r), some (.int (iI n)), some (.int (iI i))] [] := by
    intro N
    induction N with
    | zero => intro i n hi hn hm; exact absurd hm (Nat.not_lt_zero _)
    | succ N ih =>
      intro i n hi hn hm
      refine v_iload_n C dX7_many_4 rfl ?_
      refine v_bipush C dX7_many_5 rfl ?_
      refine v_aload_n C dX7_many_7 rfl ?_
      refine v_getf C g70 hR.1 rfl dX7_many_8 ?_
      refine v_imul C dX7_many_11 ?_
      refine v_icmp_ge C (⟨by omega, by omega⟩) (⟨by omega, by omega⟩) (tgt := 37) dX7_many_12 (by decide) (fun c_12 => ?_) (fun c_12 => ?_)
      · refine v_iload_n C dX7_many_37 rfl ?_
        exact v_iret C rfl dX7_many_38 (Nat.le_refl _) (Nat.le_refl _) (hPO _ _ ⟨rfl, by rw [show (64 * nw - i).toNat = 0 by omega] at hn; simpa [drF] using hn⟩)
      · refine v_aload_n C dX7_many_15 rfl ?_
        refine v_iload_n C dX7_many_16 rfl ?_
        refine v_callVi C (q := (RX7, TX7, 33)) (As := [_]) (rest := []) (c_X7_differs hR ⟨by omega, by omega⟩ (h4 _ (by omega) (by omega)) (h3 _ (by omega) (by omega))) (cwV 1 hts gX7_many_X7_differs rfl rfl rfl (by decide +kernel) ⟨Nat.le_of_ble_eq_true rfl, Nat.le_of_ble_eq_true rfl⟩) hR.1 rfl rfl rfl (Nat.le_of_ble_eq_true rfl) dX7_many_17 (Nat.le_of_ble_eq_true rfl) (Nat.le_of_ble_eq_true rfl) (fun x_17 w hp => ?_)
        obtain ⟨rfl, h17⟩ := hp
        refine v_wide (k' := 0) (z' := 0) (Nat.le_refl _) (Nat.le_refl _) ?_
        refine v_if_eq C (h17.r32) (tgt := 29) dX7_many_20 (by decide) (fun c_20 => ?_) (fun c_20 => ?_)
        · refine v_iload_n C dX7_many_29 rfl ?_
          refine v_istore_n C dX7_many_30 sl_3_1 (by decide) rfl ?_
          refine v_iinc C dX7_many_31 rfl sl_3_2 (by decide) rfl ?_
          refine v_goto C (tgt := 4) dX7_many_34 (by decide) ?_
          exact ih (i + 1) _ ⟨by omega, by omega⟩ (by
              have e9 : (64 * nw - i).toNat = (64 * nw - (i + 1)).toNat + 1 := by omega
              rw [e9] at hn
              first | (rw [drF_ne (h17.nz c_20), List.length_cons] at hn; omega) | (rw [drF_eq (Classical.not_not.mp (h17.z c_20))] at hn; omega)) (by omega)
        · refine v_iload_n C dX7_many_23 rfl ?_
          refine v_iconst C dX7_many_24 ?_
          refine v_iadd C dX7_many_25 ?_
          refine v_goto C (tgt := 30) dX7_many_26 (by decide) ?_
          refine v_istore_n C dX7_many_30 sl_3_1 (by decide) rfl ?_
          refine v_iinc C dX7_many_31 rfl sl_3_2 (by decide) rfl ?_
          refine v_goto C (tgt := 4) dX7_many_34 (by decide) ?_
          exact ih (i + 1) _ ⟨by omega, by omega⟩ (by
              have e9 : (64 * nw - i).toNat = (64 * nw - (i + 1)).toNat + 1 := by omega
              rw [e9] at hn
              first | (rw [drF_ne (h17.nz c_20), List.length_cons] at hn; omega) | (rw [drF_eq (Classical.not_not.mp (h17.z c_20))] at hn; omega)) (by omega)
  exact L4 _ 0 0 ⟨by omega, by omega⟩ (by rw [Int.sub_zero, Int.zero_add]) (Nat.lt_succ_self _)
set_option maxRecDepth 100000 in
set_option maxHeartbeats 8000000 in
theorem c_X7_codeOf {G : GG} {l : Launch} {w : Wd} {p9 v9 : Int} (h0 : 0 ≤ p9 ∧ p9 < 12800) (hv : 0 ≤ v9 ∧ v9 < 1000) : MG G l yX7_codeOf wsX7_codeOf 1 40 0 0 [.int (iI p9), .int (iI v9)] w (pL (fun (x : Int) (w' : Wd) => w' = w ∧ x = 16 * (p9 % 64) + v9)) := by
  refine MG.of (cc := cX7_codeOf) (nL := 2) (ret := (some .long)) (ll := [some (.int (iI p9)), some (.int (iI v9))]) (by decide) rfl (Nat.le_of_ble_eq_true rfl) rfl ?_
  intro p e s m args below meth c C
  have hts := C.2.2.2.2.1
  refine poI (P := fun PO => V G p l e _ s m args below meth c (MQW G below args s _ _ (pL PO)) w 0 0 0 _ []) (fun PO hPO => ?_)
  refine v_ldc2 C (v := 16) (List.mem_of_getElem? (i := 1) rfl) (by decide +kernel) dX7_codeOf_0 ?_
  refine v_iload_n C dX7_codeOf_3 rfl ?_
  refine v_bipush C dX7_codeOf_4 rfl ?_
  refine v_irem C (⟨by omega, by omega⟩) (by omega) (⟨by omega, by omega⟩) (by omega) dX7_codeOf_6 ?_
  refine v_i2l C (⟨by omega, by omega⟩) dX7_codeOf_7 ?_
  refine v_lmul C dX7_codeOf_8 ?_
  refine v_iload_n C dX7_codeOf_9 rfl ?_
  refine v_i2l C (⟨by omega, by omega⟩) dX7_codeOf_10 ?_
  refine v_ladd C dX7_codeOf_11 ?_
  exact v_lret C rfl dX7_codeOf_12 (Nat.le_refl _) (Nat.le_refl _) (hPO _ _ ⟨rfl, rfl⟩)
set_option maxRecDepth 100000 in
set_option maxHeartbeats 8000000 in
theorem c_X7_bytesOf {G : GG} {l : Launch} {w : Wd} {v9 : Int} (hv : 0 ≤ v9 ∧ v9 < 9223372036854775808) : MG G l yX7_bytesOf wsX7_bytesOf 1 40 0 0 [.long (lI v9)] w (pI (fun (x : Int) (w' : Wd) => w' = w ∧ x = (c7 v9).length)) := by
  refine MG.of (cc := cX7_bytesOf) (nL := 5) (ret := (some .int)) (ll := [some (.long (lI v9)), none, none, none, none]) (by decide) rfl (Nat.le_of_ble_eq_true rfl) rfl ?_
  intro p e s m args below meth c C
  have hts := C.2.2.2.2.1
  refine poI (P := fun PO => V G p l e _ s m args below meth c (MQW G below args s _ _ (pI PO)) w 0 0 0 _ []) (fun PO hPO => ?_)
  refine v_iconst C dX7_bytesOf_0 ?_
  refine v_istore_n C dX7_bytesOf_1 sl_5_2 (by decide) rfl ?_
  refine v_lload_n C dX7_bytesOf_2 rfl ?_
  refine v_ldc2 C (v := 128) (List.mem_of_getElem? (i := 1) rfl) (by decide +kernel) dX7_bytesOf_3 ?_
  refine v_ldiv C (⟨by omega, by omega⟩) (by omega) (⟨by omega, by omega⟩) (by omega) dX7_bytesOf_6 ?_
  refine v_lstore_n C dX7_bytesOf_7 sj_5_3 (by decide) (Nat.le_of_ble_eq_true rfl) rfl ?_
  have L8 : ∀ (N : Nat) (n t : Int), (0 ≤ t ∧ t < 9223372036854775808) → (n + (if t ≤ 0 then 0 else ((c7 t).length : Int)) = (c7 v9).length) → (t).toNat < N → V G p l e { frames := 1, cells := 0, slots := 0, locals := 40 } s m args below meth c (MQW G below args s 0 0 (pI PO)) w 0 0 8 [some (.long (lI v9)), none, some (.int (iI n)), some (.long (lI t)), none] [] := by
    intro N
    induction N with
    | zero => intro n t h1 h2 hm; exact absurd hm (Nat.not_lt_zero _)
    | succ N ih =>
      intro n t h1 h2 hm
      refine v_lload_n C dX7_bytesOf_8 rfl ?_
      refine v_lconst C (v := 0) dX7_bytesOf_9 rfl ?_
      refine v_lcmp_le C (⟨by omega, by omega⟩) (⟨by omega, by omega⟩) (tgt := 26) dX7_bytesOf_10 dX7_bytesOf_11 (by decide) (fun c_10 => ?_) (fun c_10 => ?_)
      · refine v_iload_n C dX7_bytesOf_26 rfl ?_
        exact v_iret C rfl dX7_bytesOf_27 (Nat.le_refl _) (Nat.le_refl _) (hPO _ _ ⟨rfl, by rw [if_pos c_10] at h2; omega⟩)
      · refine v_iinc C dX7_bytesOf_14 rfl sl_5_2 (by decide) rfl ?_
        refine v_lload_n C dX7_bytesOf_17 rfl ?_
        refine v_ldc2 C (v := 128) (List.mem_of_getElem? (i := 1) rfl) (by decide +kernel) dX7_bytesOf_18 ?_
        refine v_ldiv C (⟨by omega, by omega⟩) (by omega) (⟨by omega, by omega⟩) (by omega) dX7_bytesOf_21 ?_
        refine v_lstore_n C dX7_bytesOf_22 sj_5_3 (by decide) (Nat.le_of_ble_eq_true rfl) rfl ?_
        refine v_goto C (tgt := 8) dX7_bytesOf_23 (by decide) ?_
        exact ih _ _ ⟨by omega, by omega⟩ (by rw [if_neg (by omega), c7len h1.1] at h2; omega) (by omega)
  exact L8 _ 1 _ ⟨by omega, by omega⟩ (c7len hv.1).symm (Nat.lt_succ_self _)
set_option maxRecDepth 100000 in
set_option maxHeartbeats 8000000 in
theorem c_X7_write {G : GG} {l : Launch} {r : Nat} {ad : Nat → Nat} {w : Wd} {c0 nw op sm ti sp nm nc sz ts av fi wr rm rc : Int} {A1 A3 A4 A9 A10 A11 A13 A14 A15 A16 A18 A20 A25 A26 A27 A28 A30 A31 : Int → Int} {v9 : Int} (hR : RefAt G r ad w c0 nw op sm ti sp nm nc sz ts av fi wr rm rc A1 A3 A4 A9 A10 A11 A13 A14 A15 A16 A18 A20 A25 A26 A27 A28 A30 A31) (hv : 0 ≤ v9 ∧ v9 < 9223372036854775808) (hs : 0 ≤ sz ∧ sz + (c7 v9).length ≤ 60000) : MG G l yX7_write wsX7_write 1 40 0 0 [.ref r, .long (lI v9)] w (pV (fun (w' : Wd) => RefAt G r ad w' c0 nw op sm ti sp nm nc (sz + (c7 v9).length) ts av fi wr rm rc A1 A3 A4 A9 A10 A11 A13 A14 A15 A16 (putL A18 sz (c7 v9)) A20 A25 A26 A27 A28 A30 A31 ∧ Fr mT w w')) := by
  refine MG.of (cc := cX7_write) (nL := 5) (ret := none) (ll := [some (.ref r), some (.long (lI v9)), none, none, none]) (by decide) rfl (Nat.le_of_ble_eq_true rfl) rfl ?_
  intro p e s m args below meth c C
  have hts := C.2.2.2.2.1
  have g42 : GetF G s m args 42 10 18 := getF_of C 10 18 (T := TX7) (N := 33) (Cn := RX7) (ref := "TraceBookModel") rfl (by decide) (fun _ h => List.mem_cons_of_mem _ (List.mem_append_right _ (h))) (List.mem_of_getElem? (i := 2) rfl) (fun _ h => h)
  have g85 : GetF G s m args 85 10 19 := getF_of C 10 19 (T := TX7) (N := 33) (Cn := RX7) (ref := "TraceBookModel") rfl (by decide) (fun _ h => List.mem_cons_of_mem _ (List.mem_append_right _ (h))) (List.mem_of_getElem? (i := 3) rfl) (fun _ h => h)
  have p85 : PutF G s m args 85 10 19 (.int) := putF_of C 10 19 tyX7 tyX7_ok nmX7 (T := TX7) (N := 33) (Cn := RX7) (ref := "TraceBookModel") rfl (by decide) (fun _ h => List.mem_cons_of_mem _ (List.mem_append_right _ (h))) (List.mem_of_getElem? (i := 3) rfl) (fun _ h => h) rfl (by decide +kernel)
  refine poV (P := fun PO => V G p l e _ s m args below meth c (MQW G below args s _ _ (pV PO)) w 0 0 0 _ []) (fun PO hPO => ?_)
  obtain ⟨w0, hw0⟩ : ∃ z, z = w := ⟨_, rfl⟩
  rw [← hw0] at hPO
  have hF : Fr mT w0 w := by rw [hw0]; exact Fr.rf
  obtain ⟨T18, hT18⟩ : ∃ f, f = putL A18 sz (c7 v9) := ⟨_, rfl⟩
  obtain ⟨TS, hTS⟩ : ∃ t, t = sz + ((c7 v9).length : Int) := ⟨_, rfl⟩
  rw [← hT18, ← hTS] at hPO
  rw [← hTS] at hs
  refine v_lload_n C dX7_write_0 rfl ?_
  refine v_lstore_n C dX7_write_1 sj_5_3 (by decide) (Nat.le_of_ble_eq_true rfl) rfl ?_
  have L2 : ∀ (N : Nat) (w : Wd) (t sz : Int) (A18 : Int → Int), (RefAt G r ad w c0 nw op sm ti sp nm nc sz ts av fi wr rm rc A1 A3 A4 A9 A10 A11 A13 A14 A15 A16 A18 A20 A25 A26 A27 A28 A30 A31) → (Fr mT w0 w) → (0 ≤ t ∧ t < 9223372036854775808) → (0 ≤ sz ∧ sz + ((c7 t).length : Int) = TS) → (putL A18 sz (c7 t) = T18) → (t).toNat < N → V G p l e { frames := 1, cells := 0, slots := 0, locals := 40 } s m args below meth c (MQW G below args s 0 0 (pV PO)) w 0 0 2 [some (.ref r), some (.long (lI v9)), none, some (.long (lI t)), none] [] := by
    intro N
    induction N with
    | zero => intro w t sz A18 hR hF h1 h2 h3 hm; exact absurd hm (Nat.not_lt_zero _)
    | succ N ih =>
      intro w t sz A18 hR hF h1 h2 h3 hm
      refine v_lload_n C dX7_write_2 rfl ?_
      refine v_ldc2 C (v := 127) (List.mem_of_getElem? (i := 1) rfl) (by decide +kernel) dX7_write_3 ?_
      refine v_lcmp_le C (⟨by omega, by omega⟩) (⟨by omega, by omega⟩) (tgt := 48) dX7_write_6 dX7_write_7 (by decide) (fun c_6 => ?_) (fun c_6 => ?_)
      · refine v_aload_n C dX7_write_48 rfl ?_
        refine v_getf C g42 hR.1 rfl dX7_write_49 ?_
        refine v_aload_n C dX7_write_52 rfl ?_
        refine v_getf C g85 hR.1 rfl dX7_write_53 ?_
        refine v_lload_n C dX7_write_56 rfl ?_
        refine v_l2i C dX7_write_57 ?_
        refine m_st_18 C hR (⟨by omega, by omega⟩) (by omega) (by have := c7pos t; omega) dX7_write_58 (fun w hR hF9 => ?_)
        have hF := hF.tr hF9
        refine v_aload_n C dX7_write_59 rfl ?_
        refine v_dup C rfl dX7_write_60 ?_
        refine v_getf C g85 hR.1 rfl dX7_write_61 ?_
        refine v_iconst C dX7_write_64 ?_
        refine v_iadd C dX7_write_65 ?_
        refine m_put_19 C p85 hR dX7_write_66 (fun w hR hF9 => ?_)
        have hF := hF.tr hF9
        rw [c7_lt (by omega)] at h2 h3
        rw [show upI A18 sz t = T18 from h3, show sz + 1 = TS by simpa using h2.2] at hR
        exact v_vret C rfl dX7_write_69 (Nat.le_refl _) (Nat.le_refl _) (hPO _ ⟨hR, hF⟩)
      · refine v_aload_n C dX7_write_10 rfl ?_
        refine v_getf C g42 hR.1 rfl dX7_write_11 ?_
        refine v_aload_n C dX7_write_14 rfl ?_
        refine v_getf C g85 hR.1 rfl dX7_write_15 ?_
        refine v_lload_n C dX7_write_18 rfl ?_
        refine v_ldc2 C (v := 128) (List.mem_of_getElem? (i := 4) rfl) (by decide +kernel) dX7_write_19 ?_
        refine v_lrem C (⟨by omega, by omega⟩) (by omega) (⟨by omega, by omega⟩) (by omega) dX7_write_22 ?_
        refine v_l2i C dX7_write_23 ?_
        refine v_sipush C dX7_write_24 rfl ?_
        refine v_iadd C dX7_write_27 ?_
        refine m_st_18 C hR (⟨by omega, by omega⟩) (by omega) (by have := c7pos t; omega) dX7_write_28 (fun w hR hF9 => ?_)
        have hF := hF.tr hF9
        refine v_aload_n C dX7_write_29 rfl ?_
        refine v_dup C rfl dX7_write_30 ?_
        refine v_getf C g85 hR.1 rfl dX7_write_31 ?_
        refine v_iconst C dX7_write_34 ?_
        refine v_iadd C dX7_write_35 ?_
        refine m_put_19 C p85 hR dX7_write_36 (fun w hR hF9 => ?_)
        have hF := hF.tr hF9
        refine v_lload_n C dX7_write_39 rfl ?_
        refine v_ldc2 C (v := 128) (List.mem_of_getElem? (i := 4) rfl) (by decide +kernel) dX7_write_40 ?_
        refine v_ldiv C (⟨by omega, by omega⟩) (by omega) (⟨by omega, by omega⟩) (by omega) dX7_write_43 ?_
        refine v_lstore_n C dX7_write_44 sj_5_3 (by decide) (Nat.le_of_ble_eq_true rfl) rfl ?_
        refine v_goto C (tgt := 2) dX7_write_45 (by decide) ?_
        exact ih _ _ _ _ hR hF ⟨by omega, by omega⟩ ⟨by omega, by rw [c7_ge (by omega), List.length_cons] at h2; omega⟩ (by rw [c7_ge (by omega)] at h3; exact h3) (by omega)
  exact L2 _ _ _ _ _ hR hF hv ⟨hs.1, hTS.symm⟩ hT18.symm (Nat.lt_succ_self _)
set_option maxRecDepth 100000 in
set_option maxHeartbeats 8000000 in
theorem c_X7_changesOf {G : GG} {l : Launch} {r : Nat} {ad : Nat → Nat} {w : Wd} {c0 nw op sm ti sp nm nc sz ts av fi wr rm rc : Int} {A1 A3 A4 A9 A10 A11 A13 A14 A15 A16 A18 A20 A25 A26 A27 A28 A30 A31 : Int → Int} {i : Int} (hR : RefAt G r ad w c0 nw op sm ti sp nm nc sz ts av fi wr rm rc A1 A3 A4 A9 A10 A11 A13 A14 A15 A16 A18 A20 A25 A26 A27 A28 A30 A31) (h0 : 0 ≤ nc ∧ nc ≤ 30001) (hi : R32 i) (h13 : ∀ k, 0 ≤ k → k < nc → R32 (A13 k)) : MG G l yX7_changesOf wsX7_changesOf 1 40 0 0 [.ref r, .int (iI i)] w (pI (fun (x : Int) (w' : Wd) => w' = w ∧ x = cnt A13 i nc.toNat)) := by
  refine MG.of (cc := cX7_changesOf) (nL := 4) (ret := (some .int)) (ll := [some (.ref r), some (.int (iI i)), none, none]) (by decide) rfl (Nat.le_of_ble_eq_true rfl) rfl ?_
  intro p e s m args below meth c C
  have hts := C.2.2.2.2.1
  have g133 : GetF G s m args 133 10 17 := getF_of C 10 17 (T := TX7) (N := 33) (Cn := RX7) (ref := "TraceBookModel") rfl (by decide) (fun _ h => List.mem_cons_of_mem _ (List.mem_append_right _ (h))) (List.mem_of_getElem? (i := 1) rfl) (fun _ h => h)
  have g29 : GetF G s m args 29 10 13 := getF_of C 10 13 (T := TX7) (N := 33) (Cn := RX7) (ref := "TraceBookModel") rfl (by decide) (fun _ h => List.mem_cons_of_mem _ (List.mem_append_right _ (h))) (List.mem_of_getElem? (i := 2) rfl) (fun _ h => h)
  refine poI (P := fun PO => V G p l e _ s m args below meth c (MQW G below args s _ _ (pI PO)) w 0 0 0 _ []) (fun PO hPO => ?_)
  refine v_iconst C dX7_changesOf_0 ?_
  refine v_istore_n C dX7_changesOf_1 sl_4_2 (by decide) rfl ?_
  refine v_iconst C dX7_changesOf_2 ?_
  refine v_istore_n C dX7_changesOf_3 sl_4_3 (by decide) rfl ?_
  have L4 : ∀ (N : Nat) (n k9 : Int), (0 ≤ k9 ∧ k9 ≤ nc) → (n = cnt A13 i k9.toNat) → (nc - k9).toNat < N → V G p l e { frames := 1, cells := 0, slots := 0, locals := 40 } s m args below meth c (MQW G below args s 0 0 (pI PO)) w 0 0 4 [some (.ref r), some (.int (iI i)), some (.int (iI n)), some (.int (iI k9))] [] := by
    intro N
    induction N with
    | zero => intro n k9 hk9 hn hm; exact absurd hm (Nat.not_lt_zero _)
    | succ N ih =>
      intro n k9 hk9 hn hm
      refine v_iload_n C dX7_changesOf_4 rfl ?_
      refine v_aload_n C dX7_changesOf_5 rfl ?_
      refine v_getf C g133 hR.1 rfl dX7_changesOf_6 ?_
      refine v_icmp_ge C (⟨by omega, by omega⟩) (⟨by omega, by omega⟩) (tgt := 36) dX7_changesOf_9 (by decide) (fun c_9 => ?_) (fun c_9 => ?_)
      · refine v_iload_n C dX7_changesOf_36 rfl ?_
        exact v_iret C rfl dX7_changesOf_37 (Nat.le_refl _) (Nat.le_refl _) (hPO _ _ ⟨rfl, by rw [hn, show k9 = nc by omega]⟩)
      · refine v_aload_n C dX7_changesOf_12 rfl ?_
        refine v_getf C g29 hR.1 rfl dX7_changesOf_13 ?_
        refine v_iload_n C dX7_changesOf_16 rfl ?_
        refine v_iald C hR.a13 (⟨by omega, by omega⟩) (by omega) (by omega) dX7_changesOf_17 ?_
        refine v_iload_n C dX7_changesOf_18 rfl ?_
        refine v_icmp_ne C (h13 _ (by omega) (by omega)) (hi) (tgt := 28) dX7_changesOf_19 (by decide) (fun c_19 => ?_) (fun c_19 => ?_)
        · refine v_iload_n C dX7_changesOf_28 rfl ?_
          refine v_istore_n C dX7_changesOf_29 sl_4_2 (by decide) rfl ?_
          refine v_iinc C dX7_changesOf_30 rfl sl_4_3 (by decide) rfl ?_
          refine v_goto C (tgt := 4) dX7_changesOf_33 (by decide) ?_
          exact ih _ _ ⟨by omega, by omega⟩ (by
              rw [show (k9 + 1).toNat = k9.toNat + 1 by omega, cnt, show ((k9.toNat : Nat) : Int) = k9 by omega, ← hn]
              first | rw [if_pos c_19] | rw [if_neg c_19]) (by omega)
        · refine v_iload_n C dX7_changesOf_22 rfl ?_
          refine v_iconst C dX7_changesOf_23 ?_
          refine v_iadd C dX7_changesOf_24 ?_
          refine v_goto C (tgt := 29) dX7_changesOf_25 (by decide) ?_
          refine v_istore_n C dX7_changesOf_29 sl_4_2 (by decide) rfl ?_
          refine v_iinc C dX7_changesOf_30 rfl sl_4_3 (by decide) rfl ?_
          refine v_goto C (tgt := 4) dX7_changesOf_33 (by decide) ?_
          exact ih _ _ ⟨by omega, by omega⟩ (by
              rw [show (k9 + 1).toNat = k9.toNat + 1 by omega, cnt, show ((k9.toNat : Nat) : Int) = k9 by omega, ← hn]
              first | rw [if_pos c_19] | rw [if_neg c_19]) (by omega)
  exact L4 _ 0 0 ⟨by omega, by omega⟩ rfl (Nat.lt_succ_self _)
set_option maxRecDepth 100000 in
set_option maxHeartbeats 8000000 in
theorem c_X7_byteAt {G : GG} {l : Launch} {r : Nat} {ad : Nat → Nat} {w : Wd} {c0 nw op sm ti sp nm nc sz ts av fi wr rm rc : Int} {A1 A3 A4 A9 A10 A11 A13 A14 A15 A16 A18 A20 A25 A26 A27 A28 A30 A31 : Int → Int} {i : Int} (hR : RefAt G r ad w c0 nw op sm ti sp nm nc sz ts av fi wr rm rc A1 A3 A4 A9 A10 A11 A13 A14 A15 A16 A18 A20 A25 A26 A27 A28 A30 A31) (h0 : 0 ≤ sz ∧ sz ≤ 60000) (hi : R32 i) : MG G l yX7_byteAt wsX7_byteAt 1 40 0 0 [.ref r, .int (iI i)] w (pI (fun (x : Int) (w' : Wd) => ∃ cd : Int, RefAt G r ad w' cd nw op sm ti sp nm nc sz ts av fi wr rm rc A1 A3 A4 A9 A10 A11 A13 A14 A15 A16 A18 A20 A25 A26 A27 A28 A30 A31 ∧ Fr mT w w' ∧ ((0 ≤ i ∧ i < sz ∧ cd = 0 ∧ x = A18 i) ∨ (¬ (0 ≤ i ∧ i < sz) ∧ cd = 1 ∧ x = 0)))) := by
  refine MG.of (cc := cX7_byteAt) (nL := 2) (ret := (some .int)) (ll := [some (.ref r), some (.int (iI i))]) (by decide) rfl (Nat.le_of_ble_eq_true rfl) rfl ?_
  intro p e s m args below meth c C
  have hts := C.2.2.2.2.1
  have p66 : PutF G s m args 66 10 0 (.int) := putF_of C 10 0 tyX7 tyX7_ok nmX7 (T := TX7) (N := 33) (Cn := RX7) (ref := "TraceBookModel") rfl (by decide) (fun _ h => List.mem_cons_of_mem _ (List.mem_append_right _ (h))) (List.mem_of_getElem? (i := 2) rfl) (fun _ h => h) rfl (by decide +kernel)
  have g66 : GetF G s m args 66 10 0 := getF_of C 10 0 (T := TX7) (N := 33) (Cn := RX7) (ref := "TraceBookModel") rfl (by decide) (fun _ h => List.mem_cons_of_mem _ (List.mem_append_right _ (h))) (List.mem_of_getElem? (i := 2) rfl) (fun _ h => h)
  have g42 : GetF G s m args 42 10 18 := getF_of C 10 18 (T := TX7) (N := 33) (Cn := RX7) (ref := "TraceBookModel") rfl (by decide) (fun _ h => List.mem_cons_of_mem _ (List.mem_append_right _ (h))) (List.mem_of_getElem? (i := 3) rfl) (fun _ h => h)
  have g85 : GetF G s m args 85 10 19 := getF_of C 10 19 (T := TX7) (N := 33) (Cn := RX7) (ref := "TraceBookModel") rfl (by decide) (fun _ h => List.mem_cons_of_mem _ (List.mem_append_right _ (h))) (List.mem_of_getElem? (i := 1) rfl) (fun _ h => h)
  refine poI (P := fun PO => V G p l e _ s m args below meth c (MQW G below args s _ _ (pI PO)) w 0 0 0 _ []) (fun PO hPO => ?_)
  obtain ⟨w0, hw0⟩ : ∃ z, z = w := ⟨_, rfl⟩
  rw [← hw0] at hPO
  have hF : Fr mT w0 w := by rw [hw0]; exact Fr.rf
  refine v_aload_n C dX7_byteAt_0 rfl ?_
  refine v_iload_n C dX7_byteAt_1 rfl ?_
  refine v_if_lt C (⟨by omega, by omega⟩) (tgt := 13) dX7_byteAt_2 (by decide) (fun c_2 => ?_) (fun c_2 => ?_)
  · refine v_iconst C dX7_byteAt_13 ?_
    refine v_goto C (tgt := 18) dX7_byteAt_14 (by decide) ?_
    refine m_put_0 C p66 hR dX7_byteAt_18 (fun w hR hF9 => ?_)
    have hF := hF.tr hF9
    refine v_aload_n C dX7_byteAt_21 rfl ?_
    refine v_getf C g66 hR.1 rfl dX7_byteAt_22 ?_
    refine v_if_le C (⟨by omega, by omega⟩) (tgt := 32) dX7_byteAt_25 (by decide) (fun c_25 => ?_) (fun c_25 => ?_)
    · refine v_aload_n C dX7_byteAt_32 rfl ?_
      refine v_getf C g42 hR.1 rfl dX7_byteAt_33 ?_
      refine v_iload_n C dX7_byteAt_36 rfl ?_
      refine v_iald C hR.a18 (⟨by omega, by omega⟩) (by omega) (by omega) dX7_byteAt_37 ?_
      exact v_iret C rfl dX7_byteAt_38 (Nat.le_refl _) (Nat.le_refl _) (hPO _ _ ⟨_, hR, hF, by first | exact Or.inl ⟨by omega, by omega, rfl, rfl⟩ | exact Or.inr ⟨by omega, rfl, rfl⟩ | (exfalso; omega)⟩)
    · refine v_iconst C dX7_byteAt_28 ?_
      refine v_goto C (tgt := 38) dX7_byteAt_29 (by decide) ?_
      exact v_iret C rfl dX7_byteAt_38 (Nat.le_refl _) (Nat.le_refl _) (hPO _ _ ⟨_, hR, hF, by first | exact Or.inl ⟨by omega, by omega, rfl, rfl⟩ | exact Or.inr ⟨by omega, rfl, rfl⟩ | (exfalso; omega)⟩)
  · refine v_iload_n C dX7_byteAt_5 rfl ?_
    refine v_aload_n C dX7_byteAt_6 rfl ?_
    refine v_getf C g85 hR.1 rfl dX7_byteAt_7 ?_
    refine v_icmp_lt C (⟨by omega, by omega⟩) (⟨by omega, by omega⟩) (tgt := 17) dX7_byteAt_10 (by decide) (fun c_10 => ?_) (fun c_10 => ?_)
    · refine v_iconst C dX7_byteAt_17 ?_
      refine m_put_0 C p66 hR dX7_byteAt_18 (fun w hR hF9 => ?_)
      have hF := hF.tr hF9
      refine v_aload_n C dX7_byteAt_21 rfl ?_
      refine v_getf C g66 hR.1 rfl dX7_byteAt_22 ?_
      refine v_if_le C (⟨by omega, by omega⟩) (tgt := 32) dX7_byteAt_25 (by decide) (fun c_25 => ?_) (fun c_25 => ?_)
      · refine v_aload_n C dX7_byteAt_32 rfl ?_
        refine v_getf C g42 hR.1 rfl dX7_byteAt_33 ?_
        refine v_iload_n C dX7_byteAt_36 rfl ?_
        refine v_iald C hR.a18 (⟨by omega, by omega⟩) (by omega) (by omega) dX7_byteAt_37 ?_
        exact v_iret C rfl dX7_byteAt_38 (Nat.le_refl _) (Nat.le_refl _) (hPO _ _ ⟨_, hR, hF, by first | exact Or.inl ⟨by omega, by omega, rfl, rfl⟩ | exact Or.inr ⟨by omega, rfl, rfl⟩ | (exfalso; omega)⟩)
      · refine v_iconst C dX7_byteAt_28 ?_
        refine v_goto C (tgt := 38) dX7_byteAt_29 (by decide) ?_
        exact v_iret C rfl dX7_byteAt_38 (Nat.le_refl _) (Nat.le_refl _) (hPO _ _ ⟨_, hR, hF, by first | exact Or.inl ⟨by omega, by omega, rfl, rfl⟩ | exact Or.inr ⟨by omega, rfl, rfl⟩ | (exfalso; omega)⟩)
    · refine v_iconst C dX7_byteAt_13 ?_
      refine v_goto C (tgt := 18) dX7_byteAt_14 (by decide) ?_
      refine m_put_0 C p66 hR dX7_byteAt_18 (fun w hR hF9 => ?_)
      have hF := hF.tr hF9
      refine v_aload_n C dX7_byteAt_21 rfl ?_
      refine v_getf C g66 hR.1 rfl dX7_byteAt_22 ?_
      refine v_if_le C (⟨by omega, by omega⟩) (tgt := 32) dX7_byteAt_25 (by decide) (fun c_25 => ?_) (fun c_25 => ?_)
      · refine v_aload_n C dX7_byteAt_32 rfl ?_
        refine v_getf C g42 hR.1 rfl dX7_byteAt_33 ?_
        refine v_iload_n C dX7_byteAt_36 rfl ?_
        refine v_iald C hR.a18 (⟨by omega, by omega⟩) (by omega) (by omega) dX7_byteAt_37 ?_
        exact v_iret C rfl dX7_byteAt_38 (Nat.le_refl _) (Nat.le_refl _) (hPO _ _ ⟨_, hR, hF, by first | exact Or.inl ⟨by omega, by omega, rfl, rfl⟩ | exact Or.inr ⟨by omega, rfl, rfl⟩ | (exfalso; omega)⟩)
      · refine v_iconst C dX7_byteAt_28 ?_
        refine v_goto C (tgt := 38) dX7_byteAt_29 (by decide) ?_
        exact v_iret C rfl dX7_byteAt_38 (Nat.le_refl _) (Nat.le_refl _) (hPO _ _ ⟨_, hR, hF, by first | exact Or.inl ⟨by omega, by omega, rfl, rfl⟩ | exact Or.inr ⟨by omega, rfl, rfl⟩ | (exfalso; omega)⟩)
set_option maxRecDepth 100000 in
set_option maxHeartbeats 8000000 in
theorem c_X7_end {G : GG} {l : Launch} {r : Nat} {ad : Nat → Nat} {w : Wd} {c0 nw op sm ti sp nm nc sz ts av fi wr rm rc : Int} {A1 A3 A4 A9 A10 A11 A13 A14 A15 A16 A18 A20 A25 A26 A27 A28 A30 A31 : Int → Int} {i : Int} (hR : RefAt G r ad w c0 nw op sm ti sp nm nc sz ts av fi wr rm rc A1 A3 A4 A9 A10 A11 A13 A14 A15 A16 A18 A20 A25 A26 A27 A28 A30 A31) (h0 : 0 ≤ ts ∧ ts ≤ 60000) (hi : R32 i) : MG G l yX7_end wsX7_end 1 40 0 0 [.ref r, .int (iI i)] w (pV (fun (w' : Wd) => ∃ cd ts' : Int, RefAt G r ad w' cd nw op sm ti sp nm nc sz ts' av fi wr rm rc A1 A3 A4 A9 A10 A11 A13 A14 A15 A16 A18 A20 A25 A26 A27 A28 A30 A31 ∧ Fr mT w w' ∧ ((0 ≤ i ∧ i ≤ ts ∧ cd = 0 ∧ ts' = i) ∨ (¬ (0 ≤ i ∧ i ≤ ts) ∧ cd = 1 ∧ ts' = ts)))) := by
  refine MG.of (cc := cX7_end) (nL := 2) (ret := none) (ll := [some (.ref r), some (.int (iI i))]) (by decide) rfl (Nat.le_of_ble_eq_true rfl) rfl ?_
  intro p e s m args below meth c C
  have hts := C.2.2.2.2.1
  have p66 : PutF G s m args 66 10 0 (.int) := putF_of C 10 0 tyX7 tyX7_ok nmX7 (T := TX7) (N := 33) (Cn := RX7) (ref := "TraceBookModel") rfl (by decide) (fun _ h => List.mem_cons_of_mem _ (List.mem_append_right _ (h))) (List.mem_of_getElem? (i := 2) rfl) (fun _ h => h) rfl (by decide +kernel)
  have g66 : GetF G s m args 66 10 0 := getF_of C 10 0 (T := TX7) (N := 33) (Cn := RX7) (ref := "TraceBookModel") rfl (by decide) (fun _ h => List.mem_cons_of_mem _ (List.mem_append_right _ (h))) (List.mem_of_getElem? (i := 2) rfl) (fun _ h => h)
  have p148 : PutF G s m args 148 10 21 (.int) := putF_of C 10 21 tyX7 tyX7_ok nmX7 (T := TX7) (N := 33) (Cn := RX7) (ref := "TraceBookModel") rfl (by decide) (fun _ h => List.mem_cons_of_mem _ (List.mem_append_right _ (h))) (List.mem_of_getElem? (i := 1) rfl) (fun _ h => h) rfl (by decide +kernel)
  have g148 : GetF G s m args 148 10 21 := getF_of C 10 21 (T := TX7) (N := 33) (Cn := RX7) (ref := "TraceBookModel") rfl (by decide) (fun _ h => List.mem_cons_of_mem _ (List.mem_append_right _ (h))) (List.mem_of_getElem? (i := 1) rfl) (fun _ h => h)
  refine poV (P := fun PO => V G p l e _ s m args below meth c (MQW G below args s _ _ (pV PO)) w 0 0 0 _ []) (fun PO hPO => ?_)
  obtain ⟨w0, hw0⟩ : ∃ z, z = w := ⟨_, rfl⟩
  rw [← hw0] at hPO
  have hF : Fr mT w0 w := by rw [hw0]; exact Fr.rf
  refine v_aload_n C dX7_end_0 rfl ?_
  refine v_iload_n C dX7_end_1 rfl ?_
  refine v_if_lt C (⟨by omega, by omega⟩) (tgt := 13) dX7_end_2 (by decide) (fun c_2 => ?_) (fun c_2 => ?_)
  · refine v_iconst C dX7_end_13 ?_
    refine v_goto C (tgt := 18) dX7_end_14 (by decide) ?_
    refine m_put_0 C p66 hR dX7_end_18 (fun w hR hF9 => ?_)
    have hF := hF.tr hF9
    refine v_aload_n C dX7_end_21 rfl ?_
    refine v_aload_n C dX7_end_22 rfl ?_
    refine v_getf C g66 hR.1 rfl dX7_end_23 ?_
    refine v_if_le C (⟨by omega, by omega⟩) (tgt := 36) dX7_end_26 (by decide) (fun c_26 => ?_) (fun c_26 => ?_)
    · refine v_iload_n C dX7_end_36 rfl ?_
      refine m_put_21 C p148 hR dX7_end_37 (fun w hR hF9 => ?_)
      have hF := hF.tr hF9
      exact v_vret C rfl dX7_end_40 (Nat.le_refl _) (Nat.le_refl _) (hPO _ ⟨_, _, hR, hF, by first | exact Or.inl ⟨by omega, by omega, rfl, rfl⟩ | exact Or.inr ⟨by omega, rfl, rfl⟩ | (exfalso; omega)⟩)
    · refine v_aload_n C dX7_end_29 rfl ?_
      refine v_getf C g148 hR.1 rfl dX7_end_30 ?_
      refine v_goto C (tgt := 37) dX7_end_33 (by decide) ?_
      refine m_put_21 C p148 hR dX7_end_37 (fun w hR hF9 => ?_)
      have hF := hF.tr hF9
      exact v_vret C rfl dX7_end_40 (Nat.le_refl _) (Nat.le_refl _) (hPO _ ⟨_, _, hR, hF, by first | exact Or.inl ⟨by omega, by omega, rfl, rfl⟩ | exact Or.inr ⟨by omega, rfl, rfl⟩ | (exfalso; omega)⟩)
  · refine v_iload_n C dX7_end_5 rfl ?_
    refine v_aload_n C dX7_end_6 rfl ?_
    refine v_getf C g148 hR.1 rfl dX7_end_7 ?_
    refine v_icmp_le C (⟨by omega, by omega⟩) (⟨by omega, by omega⟩) (tgt := 17) dX7_end_10 (by decide) (fun c_10 => ?_) (fun c_10 => ?_)
    · refine v_iconst C dX7_end_17 ?_
      refine m_put_0 C p66 hR dX7_end_18 (fun w hR hF9 => ?_)
      have hF := hF.tr hF9
      refine v_aload_n C dX7_end_21 rfl ?_
      refine v_aload_n C dX7_end_22 rfl ?_
      refine v_getf C g66 hR.1 rfl dX7_end_23 ?_
      refine v_if_le C (⟨by omega, by omega⟩) (tgt := 36) dX7_end_26 (by decide) (fun c_26 => ?_) (fun c_26 => ?_)
      · refine v_iload_n C dX7_end_36 rfl ?_
        refine m_put_21 C p148 hR dX7_end_37 (fun w hR hF9 => ?_)
        have hF := hF.tr hF9
        exact v_vret C rfl dX7_end_40 (Nat.le_refl _) (Nat.le_refl _) (hPO _ ⟨_, _, hR, hF, by first | exact Or.inl ⟨by omega, by omega, rfl, rfl⟩ | exact Or.inr ⟨by omega, rfl, rfl⟩ | (exfalso; omega)⟩)
      · refine v_aload_n C dX7_end_29 rfl ?_
        refine v_getf C g148 hR.1 rfl dX7_end_30 ?_
        refine v_goto C (tgt := 37) dX7_end_33 (by decide) ?_
        refine m_put_21 C p148 hR dX7_end_37 (fun w hR hF9 => ?_)
        have hF := hF.tr hF9
        exact v_vret C rfl dX7_end_40 (Nat.le_refl _) (Nat.le_refl _) (hPO _ ⟨_, _, hR, hF, by first | exact Or.inl ⟨by omega, by omega, rfl, rfl⟩ | exact Or.inr ⟨by omega, rfl, rfl⟩ | (exfalso; omega)⟩)
    · refine v_iconst C dX7_end_13 ?_
      refine v_goto C (tgt := 18) dX7_end_14 (by decide) ?_
      refine m_put_0 C p66 hR dX7_end_18 (fun w hR hF9 => ?_)
      have hF := hF.tr hF9
      refine v_aload_n C dX7_end_21 rfl ?_
      refine v_aload_n C dX7_end_22 rfl ?_
      refine v_getf C g66 hR.1 rfl dX7_end_23 ?_
      refine v_if_le C (⟨by omega, by omega⟩) (tgt := 36) dX7_end_26 (by decide) (fun c_26 => ?_) (fun c_26 => ?_)
      · refine v_iload_n C dX7_end_36 rfl ?_
        refine m_put_21 C p148 hR dX7_end_37 (fun w hR hF9 => ?_)
        have hF := hF.tr hF9
        exact v_vret C rfl dX7_end_40 (Nat.le_refl _) (Nat.le_refl _) (hPO _ ⟨_, _, hR, hF, by first | exact Or.inl ⟨by omega, by omega, rfl, rfl⟩ | exact Or.inr ⟨by omega, rfl, rfl⟩ | (exfalso; omega)⟩)
      · refine v_aload_n C dX7_end_29 rfl ?_
        refine v_getf C g148 hR.1 rfl dX7_end_30 ?_
        refine v_goto C (tgt := 37) dX7_end_33 (by decide) ?_
        refine m_put_21 C p148 hR dX7_end_37 (fun w hR hF9 => ?_)
        have hF := hF.tr hF9
        exact v_vret C rfl dX7_end_40 (Nat.le_refl _) (Nat.le_refl _) (hPO _ ⟨_, _, hR, hF, by first | exact Or.inl ⟨by omega, by omega, rfl, rfl⟩ | exact Or.inr ⟨by omega, rfl, rfl⟩ | (exfalso; omega)⟩)
set_option maxRecDepth 100000 in
set_option maxHeartbeats 8000000 in
theorem c_X7_fail {G : GG} {l : Launch} {r : Nat} {ad : Nat → Nat} {w : Wd} {c0 nw op sm ti sp nm nc sz ts av fi wr rm rc : Int} {A1 A3 A4 A9 A10 A11 A13 A14 A15 A16 A18 A20 A25 A26 A27 A28 A30 A31 : Int → Int}  (hR : RefAt G r ad w c0 nw op sm ti sp nm nc sz ts av fi wr rm rc A1 A3 A4 A9 A10 A11 A13 A14 A15 A16 A18 A20 A25 A26 A27 A28 A30 A31) (hw9 : R32 wr) : MG G l yX7_fail wsX7_fail 1 40 0 0 [.ref r] w (pV (fun (w' : Wd) => RefAt G r ad w' c0 nw op sm ti sp nm nc sz ts av fi (if wr = -1 then fi else wr) rm rc A1 A3 A4 A9 A10 A11 A13 A14 A15 A16 A18 A20 A25 A26 A27 A28 A30 A31 ∧ Fr mT w w')) := by
  refine MG.of (cc := cX7_fail) (nL := 1) (ret := none) (ll := [some (.ref r)]) (by decide) rfl (Nat.le_of_ble_eq_true rfl) rfl ?_
  intro p e s m args below meth c C
  have hts := C.2.2.2.2.1
  have g151 : GetF G s m args 151 10 24 := getF_of C 10 24 (T := TX7) (N := 33) (Cn := RX7) (ref := "TraceBookModel") rfl (by decide) (fun _ h => List.mem_cons_of_mem _ (List.mem_append_right _ (h))) (List.mem_of_getElem? (i := 1) rfl) (fun _ h => h)
  have p151 : PutF G s m args 151 10 24 (.int) := putF_of C 10 24 tyX7 tyX7_ok nmX7 (T := TX7) (N := 33) (Cn := RX7) (ref := "TraceBookModel") rfl (by decide) (fun _ h => List.mem_cons_of_mem _ (List.mem_append_right _ (h))) (List.mem_of_getElem? (i := 1) rfl) (fun _ h => h) rfl (by decide +kernel)
  have g154 : GetF G s m args 154 10 23 := getF_of C 10 23 (T := TX7) (N := 33) (Cn := RX7) (ref := "TraceBookModel") rfl (by decide) (fun _ h => List.mem_cons_of_mem _ (List.mem_append_right _ (h))) (List.mem_of_getElem? (i := 2) rfl) (fun _ h => h)
  refine poV (P := fun PO => V G p l e _ s m args below meth c (MQW G below args s _ _ (pV PO)) w 0 0 0 _ []) (fun PO hPO => ?_)
  obtain ⟨w0, hw0⟩ : ∃ z, z = w := ⟨_, rfl⟩
  rw [← hw0] at hPO
  have hF : Fr mT w0 w := by rw [hw0]; exact Fr.rf
  refine v_aload_n C dX7_fail_0 rfl ?_
  refine v_aload_n C dX7_fail_1 rfl ?_
  refine v_getf C g151 hR.1 rfl dX7_fail_2 ?_
  refine v_iconst C dX7_fail_5 ?_
  refine v_icmp_ne C (⟨by omega, by omega⟩) (⟨by omega, by omega⟩) (tgt := 16) dX7_fail_6 (by decide) (fun c_6 => ?_) (fun c_6 => ?_)
  · refine v_aload_n C dX7_fail_16 rfl ?_
    refine v_getf C g151 hR.1 rfl dX7_fail_17 ?_
    refine m_put_24 C p151 hR dX7_fail_20 (fun w hR hF9 => ?_)
    have hF := hF.tr hF9
    exact v_vret C rfl dX7_fail_23 (Nat.le_refl _) (Nat.le_refl _) (hPO _ ⟨by first | (rw [if_pos c_6]; exact hR) | (rw [if_neg c_6]; exact hR), hF⟩)
  · refine v_aload_n C dX7_fail_9 rfl ?_
    refine v_getf C g154 hR.1 rfl dX7_fail_10 ?_
    refine v_goto C (tgt := 20) dX7_fail_13 (by decide) ?_
    refine m_put_24 C p151 hR dX7_fail_20 (fun w hR hF9 => ?_)
    have hF := hF.tr hF9
    exact v_vret C rfl dX7_fail_23 (Nat.le_refl _) (Nat.le_refl _) (hPO _ ⟨by first | (rw [if_pos c_6]; exact hR) | (rw [if_neg c_6]; exact hR), hF⟩)
set_option maxRecDepth 100000 in
set_option maxHeartbeats 8000000 in
theorem c_X7_width {G : GG} {l : Launch} {r : Nat} {ad : Nat → Nat} {w : Wd} {c0 nw op sm ti sp nm nc sz ts av fi wr rm rc : Int} {A1 A3 A4 A9 A10 A11 A13 A14 A15 A16 A18 A20 A25 A26 A27 A28 A30 A31 : Int → Int} {i : Int} (hR : RefAt G r ad w c0 nw op sm ti sp nm nc sz ts av fi wr rm rc A1 A3 A4 A9 A10 A11 A13 A14 A15 A16 A18 A20 A25 A26 A27 A28 A30 A31) (h0 : 0 ≤ nw ∧ nw ≤ 200) (hi : R32 i) : MG G l yX7_width wsX7_width 2 80 0 0 [.ref r, .int (iI i)] w (pI (fun (x : Int) (w' : Wd) => ∃ cd : Int, RefAt G r ad w' cd nw op sm ti sp nm nc sz ts av fi wr rm rc A1 A3 A4 A9 A10 A11 A13 A14 A15 A16 A18 A20 A25 A26 A27 A28 A30 A31 ∧ Fr mT w w' ∧ ((0 ≤ i ∧ i < nw ∧ cd = 0 ∧ x = A1 i) ∨ (¬ (0 ≤ i ∧ i < nw) ∧ cd = 1 ∧ x = 0)))) := by
  refine MG.of (cc := cX7_width) (nL := 2) (ret := (some .int)) (ll := [some (.ref r), some (.int (iI i))]) (by decide) rfl (Nat.le_of_ble_eq_true rfl) rfl ?_
  intro p e s m args below meth c C
  have hts := C.2.2.2.2.1
  have p66 : PutF G s m args 66 10 0 (.int) := putF_of C 10 0 tyX7 tyX7_ok nmX7 (T := TX7) (N := 33) (Cn := RX7) (ref := "TraceBookModel") rfl (by decide) (fun _ h => List.mem_cons_of_mem _ (List.mem_append_right _ (h))) (List.mem_of_getElem? (i := 1) rfl) (fun _ h => h) rfl (by decide +kernel)
  have g66 : GetF G s m args 66 10 0 := getF_of C 10 0 (T := TX7) (N := 33) (Cn := RX7) (ref := "TraceBookModel") rfl (by decide) (fun _ h => List.mem_cons_of_mem _ (List.mem_append_right _ (h))) (List.mem_of_getElem? (i := 1) rfl) (fun _ h => h)
  have g7 : GetF G s m args 7 10 1 := getF_of C 10 1 (T := TX7) (N := 33) (Cn := RX7) (ref := "TraceBookModel") rfl (by decide) (fun _ h => List.mem_cons_of_mem _ (List.mem_append_right _ (h))) (List.mem_of_getElem? (i := 2) rfl) (fun _ h => h)
  refine poI (P := fun PO => V G p l e _ s m args below meth c (MQW G below args s _ _ (pI PO)) w 0 0 0 _ []) (fun PO hPO => ?_)
  obtain ⟨w0, hw0⟩ : ∃ z, z = w := ⟨_, rfl⟩
  rw [← hw0] at hPO
  have hF : Fr mT w0 w := by rw [hw0]; exact Fr.rf
  refine v_aload_n C dX7_width_0 rfl ?_
  refine v_aload_n C dX7_width_1 rfl ?_
  refine v_iload_n C dX7_width_2 rfl ?_
  refine v_callVi C (q := (RX7, TX7, 33)) (As := [_]) (rest := [_]) (c_X7_none hR h0 hi) (cwV 1 hts gX7_width_X7_none rfl rfl rfl (by decide +kernel) ⟨Nat.le_of_ble_eq_true rfl, Nat.le_of_ble_eq_true rfl⟩) hR.1 rfl rfl rfl (Nat.le_of_ble_eq_true rfl) dX7_width_3 (Nat.le_of_ble_eq_true rfl) (Nat.le_of_ble_eq_true rfl) (fun x_3 w hp => ?_)
  obtain ⟨rfl, h3⟩ := hp
  refine v_wide (k' := 0) (z' := 0) (Nat.le_refl _) (Nat.le_refl _) ?_
  refine v_if_eq C (h3.r32) (tgt := 13) dX7_width_6 (by decide) (fun c_6 => ?_) (fun c_6 => ?_)
  · have h9 := h3.z c_6
    refine v_iconst C dX7_width_13 ?_
    refine m_put_0 C p66 hR dX7_width_14 (fun w hR hF9 => ?_)
    have hF := hF.tr hF9
    refine v_aload_n C dX7_width_17 rfl ?_
    refine v_getf C g66 hR.1 rfl dX7_width_18 ?_
    refine v_if_le C (⟨by omega, by omega⟩) (tgt := 28) dX7_width_21 (by decide) (fun c_21 => ?_) (fun c_21 => ?_)
    · refine v_aload_n C dX7_width_28 rfl ?_
      refine v_getf C g7 hR.1 rfl dX7_width_29 ?_
      refine v_iload_n C dX7_width_32 rfl ?_
      refine v_iald C hR.a1 (⟨by omega, by omega⟩) (by omega) (by omega) dX7_width_33 ?_
      exact v_iret C rfl dX7_width_34 (Nat.le_refl _) (Nat.le_refl _) (hPO _ _ ⟨_, hR, hF, by first | exact Or.inl ⟨by omega, by omega, rfl, rfl⟩ | exact Or.inr ⟨by omega, rfl, rfl⟩ | (exfalso; omega)⟩)
    · refine v_iconst C dX7_width_24 ?_
      refine v_goto C (tgt := 34) dX7_width_25 (by decide) ?_
      exact v_iret C rfl dX7_width_34 (Nat.le_refl _) (Nat.le_refl _) (hPO _ _ ⟨_, hR, hF, by first | exact Or.inl ⟨by omega, by omega, rfl, rfl⟩ | exact Or.inr ⟨by omega, rfl, rfl⟩ | (exfalso; omega)⟩)
  · have h9 := h3.nz c_6
    refine v_iconst C dX7_width_9 ?_
    refine v_goto C (tgt := 14) dX7_width_10 (by decide) ?_
    refine m_put_0 C p66 hR dX7_width_14 (fun w hR hF9 => ?_)
    have hF := hF.tr hF9
    refine v_aload_n C dX7_width_17 rfl ?_
    refine v_getf C g66 hR.1 rfl dX7_width_18 ?_
    refine v_if_le C (⟨by omega, by omega⟩) (tgt := 28) dX7_width_21 (by decide) (fun c_21 => ?_) (fun c_21 => ?_)
    · refine v_aload_n C dX7_width_28 rfl ?_
      refine v_getf C g7 hR.1 rfl dX7_width_29 ?_
      refine v_iload_n C dX7_width_32 rfl ?_
      refine v_iald C hR.a1 (⟨by omega, by omega⟩) (by omega) (by omega) dX7_width_33 ?_
      exact v_iret C rfl dX7_width_34 (Nat.le_refl _) (Nat.le_refl _) (hPO _ _ ⟨_, hR, hF, by first | exact Or.inl ⟨by omega, by omega, rfl, rfl⟩ | exact Or.inr ⟨by omega, rfl, rfl⟩ | (exfalso; omega)⟩)
    · refine v_iconst C dX7_width_24 ?_
      refine v_goto C (tgt := 34) dX7_width_25 (by decide) ?_
      exact v_iret C rfl dX7_width_34 (Nat.le_refl _) (Nat.le_refl _) (hPO _ _ ⟨_, hR, hF, by first | exact Or.inl ⟨by omega, by omega, rfl, rfl⟩ | exact Or.inr ⟨by omega, rfl, rfl⟩ | (exfalso; omega)⟩)
