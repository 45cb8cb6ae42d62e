theorem sj_22_1 {x0 x1 x2 x3 x4 x5 x6 x7 x8 x9 x10 x11 x12 x13 x14 x15 x16 x17 x18 x19 x20 x21 : Option Value} {v : Value} : stJ [x0, x1, x2, x3, x4, x5, x6, x7, x8, x9, x10, x11, x12, x13, x14, x15, x16, x17, x18, x19, x20, x21] 1 v = [x0, some v, none, x3, x4, x5, x6, x7, x8, x9, x10, x11, x12, x13, x14, x15, x16, x17, x18, x19, x20, x21] := rfl
theorem sj_22_3 {x0 x1 x2 x3 x4 x5 x6 x7 x8 x9 x10 x11 x12 x13 x14 x15 x16 x17 x18 x19 x20 x21 : Option Value} {v : Value} : stJ [x0, x1, x2, x3, x4, x5, x6, x7, x8, x9, x10, x11, x12, x13, x14, x15, x16, x17, x18, x19, x20, x21] 3 v = [x0, x1, x2, some v, none, x5, x6, x7, x8, x9, x10, x11, x12, x13, x14, x15, x16, x17, x18, x19, x20, x21] := rfl
theorem sj_22_5 {x0 x1 x2 x3 x4 x5 x6 x7 x8 x9 x10 x11 x12 x13 x14 x15 x16 x17 x18 x19 x20 x21 : Option Value} {v : Value} : stJ [x0, x1, x2, x3, x4, x5, x6, x7, x8, x9, x10, x11, x12, x13, x14, x15, x16, x17, x18, x19, x20, x21] 5 v = [x0, x1, x2, x3, x4, some v, none, x7, x8, x9, x10, x11, x12, x13, x14, x15, x16, x17, x18, x19, x20, x21] := rfl
theorem sj_22_7 {x0 x1 x2 x3 x4 x5 x6 x7 x8 x9 x10 x11 x12 x13 x14 x15 x16 x17 x18 x19 x20 x21 : Option Value} {v : Value} : stJ [x0, x1, x2, x3, x4, x5, x6, x7, x8, x9, x10, x11, x12, x13, x14, x15, x16, x17, x18, x19, x20, x21] 7 v = [x0, x1, x2, x3, x4, x5, x6, some v, none, x9, x10, x11, x12, x13, x14, x15, x16, x17, x18, x19, x20, x21] := rfl
theorem sj_22_9 {x0 x1 x2 x3 x4 x5 x6 x7 x8 x9 x10 x11 x12 x13 x14 x15 x16 x17 x18 x19 x20 x21 : Option Value} {v : Value} : stJ [x0, x1, x2, x3, x4, x5, x6, x7, x8, x9, x10, x11, x12, x13, x14, x15, x16, x17, x18, x19, x20, x21] 9 v = [x0, x1, x2, x3, x4, x5, x6, x7, x8, some v, none, x11, x12, x13, x14, x15, x16, x17, x18, x19, x20, x21] := rfl
theorem sj_22_12 {x0 x1 x2 x3 x4 x5 x6 x7 x8 x9 x10 x11 x12 x13 x14 x15 x16 x17 x18 x19 x20 x21 : Option Value} {v : Value} : stJ [x0, x1, x2, x3, x4, x5, x6, x7, x8, x9, x10, x11, x12, x13, x14, x15, x16, x17, x18, x19, x20, x21] 12 v = [x0, x1, x2, x3, x4, x5, x6, x7, x8, x9, x10, x11, some v, none, x14, x15, x16, x17, x18, x19, x20, x21] := rfl
theorem sj_22_14 {x0 x1 x2 x3 x4 x5 x6 x7 x8 x9 x10 x11 x12 x13 x14 x15 x16 x17 x18 x19 x20 x21 : Option Value} {v : Value} : stJ [x0, x1, x2, x3, x4, x5, x6, x7, x8, x9, x10, x11, x12, x13, x14, x15, x16, x17, x18, x19, x20, x21] 14 v = [x0, x1, x2, x3, x4, x5, x6, x7, x8, x9, x10, x11, x12, x13, some v, none, x16, x17, x18, x19, x20, x21] := rfl
theorem sj_22_16 {x0 x1 x2 x3 x4 x5 x6 x7 x8 x9 x10 x11 x12 x13 x14 x15 x16 x17 x18 x19 x20 x21 : Option Value} {v : Value} : stJ [x0, x1, x2, x3, x4, x5, x6, x7, x8, x9, x10, x11, x12, x13, x14, x15, x16, x17, x18, x19, x20, x21] 16 v = [x0, x1, x2, x3, x4, x5, x6, x7, x8, x9, x10, x11, x12, x13, x14, x15, some v, none, x18, x19, x20, x21] := rfl
theorem sj_22_18 {x0 x1 x2 x3 x4 x5 x6 x7 x8 x9 x10 x11 x12 x13 x14 x15 x16 x17 x18 x19 x20 x21 : Option Value} {v : Value} : stJ [x0, x1, x2, x3, x4, x5, x6, x7, x8, x9, x10, x11, x12, x13, x14, x15, x16, x17, x18, x19, x20, x21] 18 v = [x0, x1, x2, x3, x4, x5, x6, x7, x8, x9, x10, x11, x12, x13, x14, x15, x16, x17, some v, none, x20, x21] := rfl
theorem sk_22_5 {x0 x1 x2 x3 x4 x5 x6 x7 x8 x9 x10 x11 x12 x13 x14 x15 x16 x17 x18 x19 x20 x21 : Option Value} : stK [x0, x1, x2, x3, x4, x5, x6, x7, x8, x9, x10, x11, x12, x13, x14, x15, x16, x17, x18, x19, x20, x21] 5 = [x0, x1, x2, x3, x4, none, x6, x7, x8, x9, x10, x11, x12, x13, x14, x15, x16, x17, x18, x19, x20, x21] := rfl
theorem sk_22_7 {x0 x1 x2 x3 x4 x5 x6 x7 x8 x9 x10 x11 x12 x13 x14 x15 x16 x17 x18 x19 x20 x21 : Option Value} : stK [x0, x1, x2, x3, x4, x5, x6, x7, x8, x9, x10, x11, x12, x13, x14, x15, x16, x17, x18, x19, x20, x21] 7 = [x0, x1, x2, x3, x4, x5, x6, none, x8, x9, x10, x11, x12, x13, x14, x15, x16, x17, x18, x19, x20, x21] := rfl
theorem sk_22_14 {x0 x1 x2 x3 x4 x5 x6 x7 x8 x9 x10 x11 x12 x13 x14 x15 x16 x17 x18 x19 x20 x21 : Option Value} : stK [x0, x1, x2, x3, x4, x5, x6, x7, x8, x9, x10, x11, x12, x13, x14, x15, x16, x17, x18, x19, x20, x21] 14 = [x0, x1, x2, x3, x4, x5, x6, x7, x8, x9, x10, x11, x12, x13, none, x15, x16, x17, x18, x19, x20, x21] := rfl
theorem sk_22_16 {x0 x1 x2 x3 x4 x5 x6 x7 x8 x9 x10 x11 x12 x13 x14 x15 x16 x17 x18 x19 x20 x21 : Option Value} : stK [x0, x1, x2, x3, x4, x5, x6, x7, x8, x9, x10, x11, x12, x13, x14, x15, x16, x17, x18, x19, x20, x21] 16 = [x0, x1, x2, x3, x4, x5, x6, x7, x8, x9, x10, x11, x12, x13, x14, x15, none, x17, x18, x19, x20, x21] := rfl
theorem sk_22_18 {x0 x1 x2 x3 x4 x5 x6 x7 x8 x9 x10 x11 x12 x13 x14 x15 x16 x17 x18 x19 x20 x21 : Option Value} : stK [x0, x1, x2, x3, x4, x5, x6, x7, x8, x9, x10, x11, x12, x13, x14, x15, x16, x17, x18, x19, x20, x21] 18 = [x0, x1, x2, x3, x4, x5, x6, x7, x8, x9, x10, x11, x12, x13, x14, x15, x16, x17, none, x19, x20, x21] := rfl
theorem sk_22_20 {x0 x1 x2 x3 x4 x5 x6 x7 x8 x9 x10 x11 x12 x13 x14 x15 x16 x17 x18 x19 x20 x21 : Option Value} : stK [x0, x1, x2, x3, x4, x5, x6, x7, x8, x9, x10, x11, x12, x13, x14, x15, x16, x17, x18, x19, x20, x21] 20 = [x0, x1, x2, x3, x4, x5, x6, x7, x8, x9, x10, x11, x12, x13, x14, x15, x16, x17, x18, x19, none, x21] := rfl
theorem sk_22_21 {x0 x1 x2 x3 x4 x5 x6 x7 x8 x9 x10 x11 x12 x13 x14 x15 x16 x17 x18 x19 x20 x21 : Option Value} : stK [x0, x1, x2, x3, x4, x5, x6, x7, x8, x9, x10, x11, x12, x13, x14, x15, x16, x17, x18, x19, x20, x21] 21 = [x0, x1, x2, x3, x4, x5, x6, x7, x8, x9, x10, x11, x12, x13, x14, x15, x16, x17, x18, x19, x20, none] := rfl
theorem sl_22_11 {x0 x1 x2 x3 x4 x5 x6 x7 x8 x9 x10 x11 x12 x13 x14 x15 x16 x17 x18 x19 x20 x21 : Option Value} {v : Value} : stL [x0, x1, x2, x3, x4, x5, x6, x7, x8, x9, x10, x11, x12, x13, x14, x15, x16, x17, x18, x19, x20, x21] 11 v = [x0, x1, x2, x3, x4, x5, x6, x7, x8, x9, x10, some v, x12, x13, x14, x15, x16, x17, x18, x19, x20, x21] := rfl
theorem sl_22_20 {x0 x1 x2 x3 x4 x5 x6 x7 x8 x9 x10 x11 x12 x13 x14 x15 x16 x17 x18 x19 x20 x21 : Option Value} {v : Value} : stL [x0, x1, x2, x3, x4, x5, x6, x7, x8, x9, x10, x11, x12, x13, x14, x15, x16, x17, x18, x19, x20, x21] 20 v = [x0, x1, x2, x3, x4, x5, x6, x7, x8, x9, x10, x11, x12, x13, x14, x15, x16, x17, x18, x19, some v, x21] := rfl
theorem sl_22_21 {x0 x1 x2 x3 x4 x5 x6 x7 x8 x9 x10 x11 x12 x13 x14 x15 x16 x17 x18 x19 x20 x21 : Option Value} {v : Value} : stL [x0, x1, x2, x3, x4, x5, x6, x7, x8, x9, x10, x11, x12, x13, x14, x15, x16, x17, x18, x19, x20, x21] 21 v = [x0, x1, x2, x3, x4, x5, x6, x7, x8, x9, x10, x11, x12, x13, x14, x15, x16, x17, x18, x19, x20, some v] := rfl
theorem ite_W {z c a : Int} (h : z = (if c = -1 then a else c)) : (c = -1 ∧ z = a) ∨ (c ≠ -1 ∧ z = c) := by
  by_cases q : c = -1
  · rw [if_pos q] at h; exact Or.inl ⟨q, h⟩
  · rw [if_neg q] at h; exact Or.inr ⟨q, h⟩
set_option maxRecDepth 100000 in
set_option maxHeartbeats 400000 in
theorem c_X7_readMoment {G : GG} {l : Launch} {r : Nat} {ad : Nat → Nat} {w : Wd} {c0 nw op sm ti sp nm nc sz ts av fi wr rm rc : Int} {A1 A3 A4 A9 A10 A11 A13 A14 A15 A16 A18 A20 A25 A26 A27 A28 A30 A31 : Int → Int}  (hR : RefAt G r ad w c0 nw op sm ti sp nm nc sz ts av fi wr rm rc A1 A3 A4 A9 A10 A11 A13 A14 A15 A16 A18 A20 A25 A26 A27 A28 A30 A31) (h0 : 0 ≤ nw ∧ nw ≤ 200) (h1 : ∀ i, 0 ≤ i → i < nw → 1 ≤ A1 i ∧ A1 i ≤ 64) (hav : 0 ≤ av ∧ av ≤ ts ∧ ts ≤ 60000) (hT : ∀ q, 0 ≤ q → q < ts → 0 ≤ A20 q ∧ A20 q ≤ 255) (hw1 : wr = -1) (hrm : 0 ≤ rm ∧ rm ≤ 15000) (hrc : 0 ≤ rc ∧ rc + (ts - av) ≤ 30001) (h25 : ∀ i, 0 ≤ i → i < 12800 → 0 ≤ A25 i ∧ A25 i ≤ 8) (hLT : 0 ≤ (if rm = 0 then 0 else A26 (rm - 1)) ∧ (if rm = 0 then 0 else A26 (rm - 1)) < 1152921504606846976) (hLS : -1 ≤ (if rm = 0 then -1 else A27 (rm - 1)) ∧ (if rm = 0 then -1 else A27 (rm - 1)) < 1152921504606846976) : MG G l yX7_readMoment wsX7_readMoment 3 120 0 0 [.ref r] w (pV (fun (w' : Wd) => Fr mT w w' ∧ ∃ (av2 fi2 rm2 rc2 : Int) (B25 B26 B27 B28 B30 B31 : Int → Int), RefAt G r ad w' c0 nw op sm ti sp nm nc sz ts av2 fi2 (pmo A20 ts nw A1 av (if rm = 0 then 0 else A26 (rm - 1)) (if rm = 0 then -1 else A27 (rm - 1)) A25).1 rm2 rc2 A1 A3 A4 A9 A10 A11 A13 A14 A15 A16 A18 A20 B25 B26 B27 B28 B30 B31 ∧ ((pmo A20 ts nw A1 av (if rm = 0 then 0 else A26 (rm - 1)) (if rm = 0 then -1 else A27 (rm - 1)) A25).1 = -1 → av2 = (pmo A20 ts nw A1 av (if rm = 0 then 0 else A26 (rm - 1)) (if rm = 0 then -1 else A27 (rm - 1)) A25).2.1 ∧ rm2 = rm + 1 ∧ rc2 = rc + (pmo A20 ts nw A1 av (if rm = 0 then 0 else A26 (rm - 1)) (if rm = 0 then -1 else A27 (rm - 1)) A25).2.2.2.2.length ∧ B25 = sfold A25 (pmo A20 ts nw A1 av (if rm = 0 then 0 else A26 (rm - 1)) (if rm = 0 then -1 else A27 (rm - 1)) A25).2.2.2.2 ∧ B26 = upI A26 rm (pmo A20 ts nw A1 av (if rm = 0 then 0 else A26 (rm - 1)) (if rm = 0 then -1 else A27 (rm - 1)) A25).2.2.1 ∧ B27 = upI A27 rm (pmo A20 ts nw A1 av (if rm = 0 then 0 else A26 (rm - 1)) (if rm = 0 then -1 else A27 (rm - 1)) A25).2.2.2.1 ∧ B28 = upI A28 rm (pmo A20 ts nw A1 av (if rm = 0 then 0 else A26 (rm - 1)) (if rm = 0 then -1 else A27 (rm - 1)) A25).2.2.2.2.length ∧ B30 = putL A30 rc ((pmo A20 ts nw A1 av (if rm = 0 then 0 else A26 (rm - 1)) (if rm = 0 then -1 else A27 (rm - 1)) A25).2.2.2.2.map Prod.fst) ∧ B31 = putL A31 rc ((pmo A20 ts nw A1 av (if rm = 0 then 0 else A26 (rm - 1)) (if rm = 0 then -1 else A27 (rm - 1)) A25).2.2.2.2.map Prod.snd)) ∧ R32 (pmo A20 ts nw A1 av (if rm = 0 then 0 else A26 (rm - 1)) (if rm = 0 then -1 else A27 (rm - 1)) A25).1 ∧ (∀ i, ¬ (0 ≤ i ∧ i < 64 * nw) → B25 i = A25 i) ∧ (0 ≤ av2 ∧ av2 ≤ ts))) := by
  refine MG.of (cc := cX7_readMoment) (nL := 22) (ret := none) (ll := [some (.ref r), none, none, none, none, none, none, none, none, none, none, none, none, none, none, none, none, none, none, none, none, none]) (by decide) rfl (Nat.le_of_ble_eq_true rfl) rfl ?_
  intro p e s m args below meth c C
  have hts := C.2.2.2.2.1
  have g151 : GetF G s m args 151 10 24 := getF_of C 10 24 (T := TX7) (N := 33) (Cn := RX7) (ref := "TraceBookModel") rfl (by decide) (fun _ h => List.mem_cons_of_mem _ (List.mem_append_right _ (h))) (List.mem_of_getElem? (i := 6) rfl) (fun _ h => h)
  have g51 : GetF G s m args 51 10 26 := getF_of C 10 26 (T := TX7) (N := 33) (Cn := RX7) (ref := "TraceBookModel") rfl (by decide) (fun _ h => List.mem_cons_of_mem _ (List.mem_append_right _ (h))) (List.mem_of_getElem? (i := 2) rfl) (fun _ h => h)
  have g165 : GetF G s m args 165 10 29 := getF_of C 10 29 (T := TX7) (N := 33) (Cn := RX7) (ref := "TraceBookModel") rfl (by decide) (fun _ h => List.mem_cons_of_mem _ (List.mem_append_right _ (h))) (List.mem_of_getElem? (i := 1) rfl) (fun _ h => h)
  have g54 : GetF G s m args 54 10 27 := getF_of C 10 27 (T := TX7) (N := 33) (Cn := RX7) (ref := "TraceBookModel") rfl (by decide) (fun _ h => List.mem_cons_of_mem _ (List.mem_append_right _ (h))) (List.mem_of_getElem? (i := 4) rfl) (fun _ h => h)
  have g57 : GetF G s m args 57 10 28 := getF_of C 10 28 (T := TX7) (N := 33) (Cn := RX7) (ref := "TraceBookModel") rfl (by decide) (fun _ h => List.mem_cons_of_mem _ (List.mem_append_right _ (h))) (List.mem_of_getElem? (i := 8) rfl) (fun _ h => h)
  have p165 : PutF G s m args 165 10 29 (.int) := putF_of C 10 29 tyX7 tyX7_ok nmX7 (T := TX7) (N := 33) (Cn := RX7) (ref := "TraceBookModel") rfl (by decide) (fun _ h => List.mem_cons_of_mem _ (List.mem_append_right _ (h))) (List.mem_of_getElem? (i := 1) rfl) (fun _ h => h) rfl (by decide +kernel)
  have g70 : GetF G s m args 70 10 2 := getF_of C 10 2 (T := TX7) (N := 33) (Cn := RX7) (ref := "TraceBookModel") rfl (by decide) (fun _ h => List.mem_cons_of_mem _ (List.mem_append_right _ (h))) (List.mem_of_getElem? (i := 9) rfl) (fun _ h => h)
  have g48 : GetF G s m args 48 10 25 := getF_of C 10 25 (T := TX7) (N := 33) (Cn := RX7) (ref := "TraceBookModel") rfl (by decide) (fun _ h => List.mem_cons_of_mem _ (List.mem_append_right _ (h))) (List.mem_of_getElem? (i := 13) rfl) (fun _ h => h)
  have g60 : GetF G s m args 60 10 30 := getF_of C 10 30 (T := TX7) (N := 33) (Cn := RX7) (ref := "TraceBookModel") rfl (by decide) (fun _ h => List.mem_cons_of_mem _ (List.mem_append_right _ (h))) (List.mem_of_getElem? (i := 14) rfl) (fun _ h => h)
  have g173 : GetF G s m args 173 10 32 := getF_of C 10 32 (T := TX7) (N := 33) (Cn := RX7) (ref := "TraceBookModel") rfl (by decide) (fun _ h => List.mem_cons_of_mem _ (List.mem_append_right _ (h))) (List.mem_of_getElem? (i := 15) rfl) (fun _ h => h)
  have g63 : GetF G s m args 63 10 31 := getF_of C 10 31 (T := TX7) (N := 33) (Cn := RX7) (ref := "TraceBookModel") rfl (by decide) (fun _ h => List.mem_cons_of_mem _ (List.mem_append_right _ (h))) (List.mem_of_getElem? (i := 16) rfl) (fun _ h => h)
  have p173 : PutF G s m args 173 10 32 (.int) := putF_of C 10 32 tyX7 tyX7_ok nmX7 (T := TX7) (N := 33) (Cn := RX7) (ref := "TraceBookModel") rfl (by decide) (fun _ h => List.mem_cons_of_mem _ (List.mem_append_right _ (h))) (List.mem_of_getElem? (i := 15) rfl) (fun _ h => h) rfl (by decide +kernel)
  have g7 : GetF G s m args 7 10 1 := getF_of C 10 1 (T := TX7) (N := 33) (Cn := RX7) (ref := "TraceBookModel") rfl (by decide) (fun _ h => List.mem_cons_of_mem _ (List.mem_append_right _ (h))) (List.mem_of_getElem? (i := 11) rfl) (fun _ h => h)
  refine poV (P := fun PO => V G p l e _ s m args below meth c (MQW G below args s _ _ (pV PO)) w 0 0 0 _ []) (fun PO hPO => ?_)
  obtain ⟨w0, hw0⟩ : ∃ z, z = w := ⟨_, rfl⟩
  rw [← hw0] at hPO
  have hF : Fr mT w0 w := by rw [hw0]; exact Fr.rf
  obtain ⟨lt9, hlt9⟩ : ∃ z : Int, z = (if rm = 0 then 0 else A26 (rm - 1)) := ⟨_, rfl⟩
  obtain ⟨ls9, hls9⟩ : ∃ z : Int, z = (if rm = 0 then -1 else A27 (rm - 1)) := ⟨_, rfl⟩
  rw [← hlt9, ← hls9] at hPO
  rw [← hlt9] at hLT
  rw [← hls9] at hLS
  obtain ⟨RR, hRR⟩ : ∃ z, z = pmo A20 ts nw A1 av lt9 ls9 A25 := ⟨_, rfl⟩
  rw [← hRR] at hPO
  have J22 : ∀ q : Int, (q = lt9) → V G p l e { frames := 3, cells := 0, slots := 0, locals := 120 } s m args below meth c (MQW G below args s 0 0 (pV PO)) w 0 0 22 [some (.ref r), none, none, none, none, none, none, none, none, none, none, none, none, none, none, none, none, none, none, none, none, none] [.long (lI q)] := by
    intro q hq
    rw [hq]
    refine v_lstore_n C dX7_readMoment_22 sj_22_1 (by decide) (Nat.le_of_ble_eq_true rfl) rfl ?_
    have J47 : ∀ q : Int, (q = ls9) → V G p l e { frames := 3, cells := 0, slots := 0, locals := 120 } s m args below meth c (MQW G below args s 0 0 (pV PO)) w 0 0 47 [some (.ref r), some (.long (lI lt9)), none, none, none, none, none, none, none, none, none, none, none, none, none, none, none, none, none, none, none, none] [.long (lI q)] := by
      intro q hq
      rw [hq]
      refine v_lstore_n C dX7_readMoment_47 sj_22_3 (by decide) (Nat.le_of_ble_eq_true rfl) rfl ?_
      refine v_aload_n C dX7_readMoment_48 rfl ?_
      refine v_callVl C (q := (RX7, TX7, 33)) (As := []) (rest := []) (c_X7_count hR ⟨by omega, by omega, by omega⟩ hT hw1) (cwV 0 hts gX7_readMoment_X7_count rfl rfl rfl (by decide +kernel) ⟨Nat.le_of_ble_eq_true rfl, Nat.le_of_ble_eq_true rfl⟩) hR.1 rfl rfl rfl (Nat.le_of_ble_eq_true rfl) dX7_readMoment_49 (Nat.le_of_ble_eq_true rfl) (Nat.le_of_ble_eq_true rfl) (fun x_49 w hp => ?_)
      obtain ⟨hF9, hx49, hy49, av49, hR, ok49, hv49⟩ := hp
      have hF := hF.tr hF9
      have hb49 := rcF_bd (T := A20) (N := ts) (a := av) (by omega) (by omega)
      refine v_wide (k' := 0) (z' := 0) (Nat.le_refl _) (Nat.le_refl _) ?_
      refine v_lstore C dX7_readMoment_52 sj_22_5 (by decide) (Nat.le_of_ble_eq_true rfl) rfl ?_
      refine v_lload C dX7_readMoment_54 rfl ?_
      refine v_ldc2 C (v := 2) (List.mem_of_getElem? (i := 5) rfl) (by decide +kernel) dX7_readMoment_56 ?_
      refine v_ldiv C (⟨by omega, by omega⟩) (by omega) (⟨by omega, by omega⟩) (by omega) dX7_readMoment_59 ?_
      refine v_lstore C dX7_readMoment_60 sj_22_7 (by decide) (Nat.le_of_ble_eq_true rfl) rfl ?_
      refine v_aload_n C dX7_readMoment_62 rfl ?_
      refine v_getf C g151 hR.1 rfl dX7_readMoment_63 ?_
      refine v_iconst C dX7_readMoment_66 ?_
      refine v_icmp_eq C (⟨by omega, by omega⟩) (⟨by omega, by omega⟩) (tgt := 71) dX7_readMoment_67 (by decide) (fun c_67 => ?_) (fun c_67 => ?_)
      · obtain ⟨hk1, hk2⟩ := ok49 c_67
        have hrc1 := rc_ok (T := A20) (N := ts) (a := av) hav.1 hav.2.1 c_67
        rw [c_67] at hR
        refine v_lload C dX7_readMoment_71 rfl ?_
        have J95 : ∀ t1 s1 : Int, (t1 = (if x_49 % 2 = 1 then lt9 else lt9 + x_49 / 2)) → (s1 = (if x_49 % 2 = 1 then ls9 + x_49 / 2 else ls9)) → V G p l e { frames := 3, cells := 0, slots := 0, locals := 120 } s m args below meth c (MQW G below args s 0 0 (pV PO)) w 0 0 95 [some (.ref r), some (.long (lI t1)), none, some (.long (lI s1)), none, some (.long (lI x_49)), none, some (.long (lI (x_49 / 2))), none, none, none, none, none, none, none, none, none, none, none, none, none, none] [] := by
          intro t1 s1 ht1 hs1
          have hbt : 0 ≤ t1 ∧ t1 < 4611686018427387904 ∧ -1 ≤ s1 ∧ s1 < 4611686018427387904 ∧ (x_49 / 2 ≠ 0 → s1 < 0 → ¬ x_49 % 2 = 1) := by
            rw [ht1, hs1]
            by_cases q : x_49 % 2 = 1
            · rw [if_pos q, if_pos q]; omega
            · rw [if_neg q, if_neg q]; omega
          refine v_lload C dX7_readMoment_95 rfl ?_
          refine v_lconst C (v := 0) dX7_readMoment_97 rfl ?_
          refine v_lcmp_eq C (⟨by omega, by omega⟩) (⟨by omega, by omega⟩) (tgt := 118) dX7_readMoment_98 dX7_readMoment_99 (by decide) (fun c_98 => ?_) (fun c_98 => ?_)
          · refine v_aload_n C dX7_readMoment_118 rfl ?_
            refine v_callVv C (q := (RX7, TX7, 33)) (As := []) (rest := []) (c_X7_fail hR ⟨by omega, by omega⟩) (cwV 0 hts gX7_readMoment_X7_fail rfl rfl rfl (by decide +kernel) ⟨Nat.le_of_ble_eq_true rfl, Nat.le_of_ble_eq_true rfl⟩) hR.1 rfl rfl rfl (Nat.le_of_ble_eq_true rfl) dX7_readMoment_119 (Nat.le_of_ble_eq_true rfl) (Nat.le_of_ble_eq_true rfl) (fun w hp => ?_)
            obtain ⟨hR, hF9⟩ := hp
            have hF := hF.tr hF9
            refine v_wide (k' := 0) (z' := 0) (Nat.le_refl _) (Nat.le_refl _) ?_
            exact v_vret C rfl dX7_readMoment_122 (Nat.le_refl _) (Nat.le_refl _) (by
                  rw [if_pos rfl] at hR
                  have hRV : RR.1 = av := by rw [hRR, pmo, if_neg (fun g => g c_67), if_pos (by rw [← hk1, ← ht1, ← hs1]; omega)]
                  exact hPO _ ⟨hF, _, _, _, _, _, _, _, _, _, _, by rw [hRV]; exact hR, fun g => absurd (hRV.symm.trans g) (by omega), by rw [hRV]; exact ⟨by omega, by omega⟩, (fun _ _ => rfl), by omega⟩)
          · refine v_lload_n C dX7_readMoment_102 rfl ?_
            refine v_ldc2 C (v := 1152921504606846976) (List.mem_of_getElem? (i := 7) rfl) (by decide +kernel) dX7_readMoment_103 ?_
            refine v_lcmp_ge C (⟨by omega, by omega⟩) (⟨by omega, by omega⟩) (tgt := 118) dX7_readMoment_106 dX7_readMoment_107 (by decide) (fun c_106 => ?_) (fun c_106 => ?_)
            · refine v_aload_n C dX7_readMoment_118 rfl ?_
              refine v_callVv C (q := (RX7, TX7, 33)) (As := []) (rest := []) (c_X7_fail hR ⟨by omega, by omega⟩) (cwV 0 hts gX7_readMoment_X7_fail rfl rfl rfl (by decide +kernel) ⟨Nat.le_of_ble_eq_true rfl, Nat.le_of_ble_eq_true rfl⟩) hR.1 rfl rfl rfl (Nat.le_of_ble_eq_true rfl) dX7_readMoment_119 (Nat.le_of_ble_eq_true rfl) (Nat.le_of_ble_eq_true rfl) (fun w hp => ?_)
              obtain ⟨hR, hF9⟩ := hp
              have hF := hF.tr hF9
              refine v_wide (k' := 0) (z' := 0) (Nat.le_refl _) (Nat.le_refl _) ?_
              exact v_vret C rfl dX7_readMoment_122 (Nat.le_refl _) (Nat.le_refl _) (by
                    rw [if_pos rfl] at hR
                    have hRV : RR.1 = av := by rw [hRR, pmo, if_neg (fun g => g c_67), if_pos (by rw [← hk1, ← ht1, ← hs1]; omega)]
                    exact hPO _ ⟨hF, _, _, _, _, _, _, _, _, _, _, by rw [hRV]; exact hR, fun g => absurd (hRV.symm.trans g) (by omega), by rw [hRV]; exact ⟨by omega, by omega⟩, (fun _ _ => rfl), by omega⟩)
            · refine v_lload_n C dX7_readMoment_110 rfl ?_
              refine v_ldc2 C (v := 1152921504606846976) (List.mem_of_getElem? (i := 7) rfl) (by decide +kernel) dX7_readMoment_111 ?_
              refine v_lcmp_lt C (⟨by omega, by omega⟩) (⟨by omega, by omega⟩) (tgt := 123) dX7_readMoment_114 dX7_readMoment_115 (by decide) (fun c_114 => ?_) (fun c_114 => ?_)
              · refine v_lload C dX7_readMoment_123 rfl ?_
                have J160 : ∀ (w : Wd) (av2 fi2 s2 : Int), (RefAt G r ad w c0 nw op sm ti sp nm nc sz ts av2 fi2 (-1) rm rc A1 A3 A4 A9 A10 A11 A13 A14 A15 A16 A18 A20 A25 A26 A27 A28 A30 A31) → (Fr mT w0 w) → (RR = pmT A20 ts nw A1 av2 t1 s2 A25) → (av < av2 ∧ av2 ≤ ts) → (0 ≤ s2 ∧ s2 < 1152921504606846976) → V G p l e { frames := 3, cells := 0, slots := 0, locals := 120 } s m args below meth c (MQW G below args s 0 0 (pV PO)) w 0 0 160 [some (.ref r), some (.long (lI t1)), none, some (.long (lI s2)), none, none, none, none, none, none, none, none, none, none, none, none, none, none, none, none, none, none] [] := by
                  intro w av2 fi2 s2 hR hF hRT hav2 hs2
                  refine v_aload_n C dX7_readMoment_160 rfl ?_
                  refine v_callVl C (q := (RX7, TX7, 33)) (As := []) (rest := []) (c_X7_count hR ⟨by omega, by omega, by omega⟩ hT rfl) (cwV 0 hts gX7_readMoment_X7_count rfl rfl rfl (by decide +kernel) ⟨Nat.le_of_ble_eq_true rfl, Nat.le_of_ble_eq_true rfl⟩) hR.1 rfl rfl rfl (Nat.le_of_ble_eq_true rfl) dX7_readMoment_161 (Nat.le_of_ble_eq_true rfl) (Nat.le_of_ble_eq_true rfl) (fun x_161 w hp => ?_)
                  obtain ⟨hF9, hx161, hy161, av161, hR, ok161, hv161⟩ := hp
                  have hF := hF.tr hF9
                  have hb161 := rcF_bd (T := A20) (N := ts) (a := av2) (by omega) (by omega)
                  refine v_wide (k' := 0) (z' := 0) (Nat.le_refl _) (Nat.le_refl _) ?_
                  refine v_lstore C dX7_readMoment_164 sj_22_9 (by decide) (Nat.le_of_ble_eq_true rfl) rfl ?_
                  have J177 : ∀ (w : Wd) (fi3 av3 wr3 : Int), (RefAt G r ad w c0 nw op sm ti sp nm nc sz ts av3 fi3 wr3 rm rc A1 A3 A4 A9 A10 A11 A13 A14 A15 A16 A18 A20 A25 A26 A27 A28 A30 A31) → (Fr mT w0 w) → ((wr3 = -1 ∧ x_161 = rcV A20 ts av2 ∧ 0 < x_161 ∧ av3 = rcN A20 ts av2 ∧ rcF A20 ts av2 = -1) ∨ (wr3 ≠ -1 ∧ RR.1 = wr3 ∧ -1 ≤ wr3 ∧ wr3 ≤ 60000)) → (0 ≤ av3 ∧ av3 ≤ ts ∧ av ≤ av3 ∨ wr3 ≠ -1 ∧ 0 ≤ av3 ∧ av3 ≤ ts) → V G p l e { frames := 3, cells := 0, slots := 0, locals := 120 } s m args below meth c (MQW G below args s 0 0 (pV PO)) w 0 0 177 [some (.ref r), some (.long (lI t1)), none, some (.long (lI s2)), none, none, none, none, none, some (.long (lI x_161)), none, none, none, none, none, none, none, none, none, none, none, none] [] := by
                    intro w fi3 av3 wr3 hR hF h177 hav3
                    refine v_aload_n C dX7_readMoment_177 rfl ?_
                    refine v_getf C g51 hR.1 rfl dX7_readMoment_178 ?_
                    refine v_aload_n C dX7_readMoment_181 rfl ?_
                    refine v_getf C g165 hR.1 rfl dX7_readMoment_182 ?_
                    refine v_lload_n C dX7_readMoment_185 rfl ?_
                    refine m_st_26 C hR (⟨by omega, by omega⟩) (by omega) (by omega) dX7_readMoment_186 (fun w hR hF9 => ?_)
                    have hF := hF.tr hF9
                    refine v_aload_n C dX7_readMoment_187 rfl ?_
                    refine v_getf C g54 hR.1 rfl dX7_readMoment_188 ?_
                    refine v_aload_n C dX7_readMoment_191 rfl ?_
                    refine v_getf C g165 hR.1 rfl dX7_readMoment_192 ?_
                    refine v_lload_n C dX7_readMoment_195 rfl ?_
                    refine m_st_27 C hR (⟨by omega, by omega⟩) (by omega) (by omega) dX7_readMoment_196 (fun w hR hF9 => ?_)
                    have hF := hF.tr hF9
                    refine v_aload_n C dX7_readMoment_197 rfl ?_
                    refine v_getf C g57 hR.1 rfl dX7_readMoment_198 ?_
                    refine v_aload_n C dX7_readMoment_201 rfl ?_
                    refine v_getf C g165 hR.1 rfl dX7_readMoment_202 ?_
                    refine v_iconst C dX7_readMoment_205 ?_
                    refine m_st_28 C hR (⟨by omega, by omega⟩) (by omega) (by omega) dX7_readMoment_206 (fun w hR hF9 => ?_)
                    have hF := hF.tr hF9
                    refine v_iconst C dX7_readMoment_207 ?_
                    refine v_istore C dX7_readMoment_208 sl_22_11 (by decide) rfl ?_
                    refine v_lconst C (v := 0) dX7_readMoment_210 rfl ?_
                    refine v_lstore C dX7_readMoment_211 sj_22_12 (by decide) (Nat.le_of_ble_eq_true rfl) rfl ?_
                    have L213 : ∀ (N : Nat) (w : Wd) (k9 p9 av4 fi4 wr4 rc4 cnt4 : Int) (C25 C30 C31 : Int → Int), (RefAt G r ad w c0 nw op sm ti sp nm nc sz ts av4 fi4 wr4 rm rc4 A1 A3 A4 A9 A10 A11 A13 A14 A15 A16 A18 A20 C25 (upI A26 rm t1) (upI A27 rm s2) (upI A28 rm cnt4) C30 C31) → (Fr mT w0 w) → ((wr4 = -1 ∧ RR.1 = (pch A20 ts nw A1 (x_161 - k9) av4 p9 C25).1 ∧ RR.2.1 = (pch A20 ts nw A1 (x_161 - k9) av4 p9 C25).2.1 ∧ (RR.2.2.1 = t1 ∧ RR.2.2.2.1 = s2) ∧ sfold C25 (pch A20 ts nw A1 (x_161 - k9) av4 p9 C25).2.2 = sfold A25 RR.2.2.2.2 ∧ putL C30 rc4 ((pch A20 ts nw A1 (x_161 - k9) av4 p9 C25).2.2.map Prod.fst) = putL A30 rc (RR.2.2.2.2.map Prod.fst) ∧ putL C31 rc4 ((pch A20 ts nw A1 (x_161 - k9) av4 p9 C25).2.2.map Prod.snd) = putL A31 rc (RR.2.2.2.2.map Prod.snd) ∧ rc4 + (pch A20 ts nw A1 (x_161 - k9) av4 p9 C25).2.2.length = rc + RR.2.2.2.2.length ∧ cnt4 + (pch A20 ts nw A1 (x_161 - k9) av4 p9 C25).2.2.length = RR.2.2.2.2.length ∧ 0 ≤ rc4 ∧ rc4 + (ts - av4) ≤ 30001) ∨ (wr4 ≠ -1 ∧ RR.1 = wr4 ∧ -1 ≤ wr4 ∧ wr4 ≤ 60000)) → (0 ≤ k9 ∧ k9 ≤ x_161) → (-1 ≤ p9 ∧ p9 < 12800) → (0 ≤ av4 ∧ av4 ≤ ts) → (∀ i, 0 ≤ i → i < 12800 → 0 ≤ C25 i ∧ C25 i ≤ 8) → (∀ i, ¬ (0 ≤ i ∧ i < 64 * nw) → C25 i = A25 i) → (x_161 - k9).toNat < N → V G p l e { frames := 3, cells := 0, slots := 0, locals := 120 } s m args below meth c (MQW G below args s 0 0 (pV PO)) w 0 0 213 [some (.ref r), some (.long (lI t1)), none, some (.long (lI s2)), none, none, none, none, none, some (.long (lI x_161)), none, some (.int (iI p9)), some (.long (lI k9)), none, none, none, none, none, none, none, none, none] [] := by
                      intro N
                      induction N with
                      | zero => intro w k9 p9 av4 fi4 wr4 rc4 cnt4 C25 C30 C31 hR hF hI hk hp9 hav4 h25 hz25 hm; exact absurd hm (Nat.not_lt_zero _)
                      | succ N ih =>
                        intro w k9 p9 av4 fi4 wr4 rc4 cnt4 C25 C30 C31 hR hF hI hk hp9 hav4 h25 hz25 hm
                        refine v_lload C dX7_readMoment_213 rfl ?_
                        refine v_lload C dX7_readMoment_215 rfl ?_
                        refine v_lcmp_ge C (⟨by omega, by omega⟩) (⟨by omega, by omega⟩) (tgt := 469) dX7_readMoment_217 dX7_readMoment_218 (by decide) (fun c_217 => ?_) (fun c_217 => ?_)
                        · refine v_aload_n C dX7_readMoment_469 rfl ?_
                          refine v_aload_n C dX7_readMoment_470 rfl ?_
                          refine v_getf C g151 hR.1 rfl dX7_readMoment_471 ?_
                          refine v_iconst C dX7_readMoment_474 ?_
                          refine v_icmp_ne C (⟨by omega, by omega⟩) (⟨by omega, by omega⟩) (tgt := 487) dX7_readMoment_475 (by decide) (fun c_475 => ?_) (fun c_475 => ?_)
                          · refine v_aload_n C dX7_readMoment_487 rfl ?_
                            refine v_getf C g165 hR.1 rfl dX7_readMoment_488 ?_
                            refine m_put_29 C p165 hR dX7_readMoment_491 (fun w hR hF9 => ?_)
                            have hF := hF.tr hF9
                            exact v_vret C rfl dX7_readMoment_494 (Nat.le_refl _) (Nat.le_refl _) (by
                                  have hI2 := hI.resolve_left (fun g => c_475 g.1)
                                  have hRV : RR.1 = wr4 := hI2.2.1
                                  exact hPO _ ⟨hF, _, _, _, _, _, _, _, _, _, _, by rw [hRV]; exact hR, fun g => absurd (hRV.symm.trans g) (by omega), by rw [hRV]; exact ⟨by omega, by omega⟩, hz25, by omega⟩)
                          · refine v_aload_n C dX7_readMoment_478 rfl ?_
                            refine v_getf C g165 hR.1 rfl dX7_readMoment_479 ?_
                            refine v_iconst C dX7_readMoment_482 ?_
                            refine v_iadd C dX7_readMoment_483 ?_
                            refine v_goto C (tgt := 491) dX7_readMoment_484 (by decide) ?_
                            refine m_put_29 C p165 hR dX7_readMoment_491 (fun w hR hF9 => ?_)
                            have hF := hF.tr hF9
                            exact v_vret C rfl dX7_readMoment_494 (Nat.le_refl _) (Nat.le_refl _) (by
                                obtain ⟨hA1, hA2, hA3, hA4, hA5, hA6, hA7, hA8, hA9, hA10⟩ := hI.resolve_right (fun g => g.1 c_475)
                                rw [pch_0 (by omega)] at hA2 hA3 hA5 hA6 hA7 hA8 hA9
                                rw [c_475] at hR
                                exact hPO _ ⟨hF, _, _, _, _, _, _, _, _, _, _, by rw [hA2]; exact hR, fun _ => ⟨hA3.symm, rfl, by rw [← hA8]; exact (Int.add_zero _).symm, hA5, by rw [hA4.1], by rw [hA4.2], by rw [← hA9]; exact congrArg _ (Int.add_zero _).symm, hA6, hA7⟩, by rw [hA2]; exact ⟨by omega, by omega⟩, hz25, hav4⟩)
                        · refine v_aload_n C dX7_readMoment_221 rfl ?_
                          refine v_getf C g151 hR.1 rfl dX7_readMoment_222 ?_
                          refine v_iconst C dX7_readMoment_225 ?_
                          refine v_icmp_ne C (⟨by omega, by omega⟩) (⟨by omega, by omega⟩) (tgt := 469) dX7_readMoment_226 (by decide) (fun c_226 => ?_) (fun c_226 => ?_)
                          · refine v_aload_n C dX7_readMoment_469 rfl ?_
                            refine v_aload_n C dX7_readMoment_470 rfl ?_
                            refine v_getf C g151 hR.1 rfl dX7_readMoment_471 ?_
                            refine v_iconst C dX7_readMoment_474 ?_
                            refine v_icmp_ne C (⟨by omega, by omega⟩) (⟨by omega, by omega⟩) (tgt := 487) dX7_readMoment_475 (by decide) (fun c_475 => ?_) (fun c_475 => ?_)
                            · refine v_aload_n C dX7_readMoment_487 rfl ?_
                              refine v_getf C g165 hR.1 rfl dX7_readMoment_488 ?_
                              refine m_put_29 C p165 hR dX7_readMoment_491 (fun w hR hF9 => ?_)
                              have hF := hF.tr hF9
                              exact v_vret C rfl dX7_readMoment_494 (Nat.le_refl _) (Nat.le_refl _) (by
                                    have hI2 := hI.resolve_left (fun g => c_475 g.1)
                                    have hRV : RR.1 = wr4 := hI2.2.1
                                    exact hPO _ ⟨hF, _, _, _, _, _, _, _, _, _, _, by rw [hRV]; exact hR, fun g => absurd (hRV.symm.trans g) (by omega), by rw [hRV]; exact ⟨by omega, by omega⟩, hz25, by omega⟩)
                            · refine v_aload_n C dX7_readMoment_478 rfl ?_
                              refine v_getf C g165 hR.1 rfl dX7_readMoment_479 ?_
                              refine v_iconst C dX7_readMoment_482 ?_
                              refine v_iadd C dX7_readMoment_483 ?_
                              refine v_goto C (tgt := 491) dX7_readMoment_484 (by decide) ?_
                              refine m_put_29 C p165 hR dX7_readMoment_491 (fun w hR hF9 => ?_)
                              have hF := hF.tr hF9
                              exact v_vret C rfl dX7_readMoment_494 (Nat.le_refl _) (Nat.le_refl _) (absurd c_475 c_226)
                          · have hI1 := hI.resolve_right (fun g => g.1 c_226)
                            refine v_aload_n C dX7_readMoment_229 rfl ?_
                            refine v_callVl C (q := (RX7, TX7, 33)) (As := []) (rest := []) (c_X7_count hR ⟨by omega, by omega, by omega⟩ hT c_226) (cwV 0 hts gX7_readMoment_X7_count rfl rfl rfl (by decide +kernel) ⟨Nat.le_of_ble_eq_true rfl, Nat.le_of_ble_eq_true rfl⟩) hR.1 rfl rfl rfl (Nat.le_of_ble_eq_true rfl) dX7_readMoment_230 (Nat.le_of_ble_eq_true rfl) (Nat.le_of_ble_eq_true rfl) (fun x_230 w hp => ?_)
                            obtain ⟨hF9, hx230, hy230, av230, hR, ok230, hv230⟩ := hp
                            have hF := hF.tr hF9
                            have hb230 := rcF_bd (T := A20) (N := ts) (a := av4) (by omega) (by omega)
                            refine v_wide (k' := 0) (z' := 0) (Nat.le_refl _) (Nat.le_refl _) ?_
                            have J248 : ∀ q : Int, (q = (if p9 < 0 then 0 else p9 / 64)) → V G p l e { frames := 3, cells := 0, slots := 0, locals := 120 } s m args below meth c (MQW G below args s 0 0 (pV PO)) w 0 0 248 [some (.ref r), some (.long (lI t1)), none, some (.long (lI s2)), none, none, none, none, none, some (.long (lI x_161)), none, some (.int (iI p9)), some (.long (lI k9)), none, none, none, none, none, none, none, none, none] [.long (lI q), .long (lI x_230)] := by
                              intro q hq
                              refine v_ladd C dX7_readMoment_248 ?_
                              obtain ⟨w14, hw14, hwR, hwE⟩ := lI_norm (x_230 + q)
                              rw [hw14]
                              have hq0 : 0 ≤ q ∧ q < 200 := by
                                rw [hq]
                                by_cases g : p9 < 0
                                · rw [if_pos g]; omega
                                · rw [if_neg g]; omega
                              refine v_lstore C dX7_readMoment_249 sj_22_14 (by decide) (Nat.le_of_ble_eq_true rfl) rfl ?_
                              refine v_lload C dX7_readMoment_251 rfl ?_
                              refine v_aload_n C dX7_readMoment_253 rfl ?_
                              refine v_getf C g70 hR.1 rfl dX7_readMoment_254 ?_
                              refine v_i2l C (⟨by omega, by omega⟩) dX7_readMoment_257 ?_
                              refine v_lcmp_lt C (hwR) (⟨by omega, by omega⟩) (tgt := 266) dX7_readMoment_258 dX7_readMoment_259 (by decide) (fun c_258 => ?_) (fun c_258 => ?_)
                              · refine v_aload_n C dX7_readMoment_266 rfl ?_
                                refine v_getf C g151 hR.1 rfl dX7_readMoment_267 ?_
                                refine v_iconst C dX7_readMoment_270 ?_
                                refine v_icmp_eq C (⟨by omega, by omega⟩) (⟨by omega, by omega⟩) (tgt := 275) dX7_readMoment_271 (by decide) (fun c_271 => ?_) (fun c_271 => ?_)
                                · have hk3 := ok230 c_271
                                  have hrc3 := rc_ok (T := A20) (N := ts) (a := av4) hav4.1 hav4.2 c_271
                                  have hw15 : w14 = x_230 + q := hwE ⟨by omega, by omega⟩
                                  subst hw15
                                  rw [c_271] at hR
                                  refine v_aload_n C dX7_readMoment_275 rfl ?_
                                  refine v_callVl C (q := (RX7, TX7, 33)) (As := []) (rest := []) (c_X7_count hR ⟨by omega, by omega, by omega⟩ hT rfl) (cwV 0 hts gX7_readMoment_X7_count rfl rfl rfl (by decide +kernel) ⟨Nat.le_of_ble_eq_true rfl, Nat.le_of_ble_eq_true rfl⟩) hR.1 rfl rfl rfl (Nat.le_of_ble_eq_true rfl) dX7_readMoment_276 (Nat.le_of_ble_eq_true rfl) (Nat.le_of_ble_eq_true rfl) (fun x_276 w hp => ?_)
                                  obtain ⟨hF9, hx276, hy276, av276, hR, ok276, hv276⟩ := hp
                                  have hF := hF.tr hF9
                                  have hb276 := rcF_bd (T := A20) (N := ts) (a := av230) (by omega) (by omega)
                                  refine v_wide (k' := 0) (z' := 0) (Nat.le_refl _) (Nat.le_refl _) ?_
                                  refine v_lstore C dX7_readMoment_279 sj_22_16 (by decide) (Nat.le_of_ble_eq_true rfl) rfl ?_
                                  refine v_aload_n C dX7_readMoment_281 rfl ?_
                                  refine v_getf C g151 hR.1 rfl dX7_readMoment_282 ?_
                                  refine v_iconst C dX7_readMoment_285 ?_
                                  refine v_icmp_eq C (⟨by omega, by omega⟩) (⟨by omega, by omega⟩) (tgt := 290) dX7_readMoment_286 (by decide) (fun c_286 => ?_) (fun c_286 => ?_)
                                  · have hk6 := ok276 c_286
                                    have hrc6 := rc_ok (T := A20) (N := ts) (a := av230) (by omega) (by omega) c_286
                                    rw [c_286] at hR
                                    have hA1w := h1 (x_230 + q) (by omega) (by omega)
                                    refine v_lload C dX7_readMoment_290 rfl ?_
                                    refine v_ldc2 C (v := 16) (List.mem_of_getElem? (i := 10) rfl) (by decide +kernel) dX7_readMoment_292 ?_
                                    refine v_ldiv C (⟨by omega, by omega⟩) (by omega) (⟨by omega, by omega⟩) (by omega) dX7_readMoment_295 ?_
                                    refine v_lstore C dX7_readMoment_296 sj_22_18 (by decide) (Nat.le_of_ble_eq_true rfl) rfl ?_
                                    refine v_lload C dX7_readMoment_298 rfl ?_
                                    refine v_ldc2 C (v := 16) (List.mem_of_getElem? (i := 10) rfl) (by decide +kernel) dX7_readMoment_300 ?_
                                    refine v_lrem C (⟨by omega, by omega⟩) (by omega) (⟨by omega, by omega⟩) (by omega) dX7_readMoment_303 ?_
                                    refine v_l2i C dX7_readMoment_304 ?_
                                    refine v_istore C dX7_readMoment_305 sl_22_20 (by decide) rfl ?_
                                    have J350 : ∀ q3 : Int, (BP q3 (x_276 / 16 < A1 (x_230 + q) ∧ x_276 % 16 < 9 ∧ p9 < 64 * (x_230 + q) + x_276 / 16)) → V G p l e { frames := 3, cells := 0, slots := 0, locals := 120 } s m args below meth c (MQW G below args s 0 0 (pV PO)) w 0 0 350 [some (.ref r), some (.long (lI t1)), none, some (.long (lI s2)), none, none, none, none, none, some (.long (lI x_161)), none, some (.int (iI p9)), some (.long (lI k9)), none, some (.long (lI (x_230 + q))), none, some (.long (lI x_276)), none, some (.long (lI (x_276 / 16))), none, some (.int (iI (x_276 % 16))), none] [.int (iI q3)] := by
                                      intro q3 h350
                                      refine v_istore C dX7_readMoment_350 sl_22_21 (by decide) rfl ?_
                                      have J382 : ∀ q4 : Int, (BP q4 (x_276 / 16 < A1 (x_230 + q) ∧ x_276 % 16 < 9 ∧ p9 < 64 * (x_230 + q) + x_276 / 16 ∧ C25 (64 * (x_230 + q) + x_276 / 16) ≠ x_276 % 16)) → V G p l e { frames := 3, cells := 0, slots := 0, locals := 120 } s m args below meth c (MQW G below args s 0 0 (pV PO)) w 0 0 382 [some (.ref r), some (.long (lI t1)), none, some (.long (lI s2)), none, none, none, none, none, some (.long (lI x_161)), none, some (.int (iI p9)), some (.long (lI k9)), none, some (.long (lI (x_230 + q))), none, some (.long (lI x_276)), none, some (.long (lI (x_276 / 16))), none, some (.int (iI (x_276 % 16))), none] [.int (iI q4)] := by
                                        intro q4 h382
                                        refine v_istore C dX7_readMoment_382 sl_22_21 (by decide) rfl ?_
                                        refine v_iload C dX7_readMoment_384 rfl ?_
                                        refine v_if_ne C (h382.r32) (tgt := 394) dX7_readMoment_386 (by decide) (fun c_386 => ?_) (fun c_386 => ?_)
                                        · have h98 := h382.nz c_386
                                          refine v_ldc2 C (v := 64) (List.mem_of_getElem? (i := 12) rfl) (by decide +kernel) dX7_readMoment_394 ?_
                                          refine v_lload C dX7_readMoment_397 rfl ?_
                                          refine v_lmul C dX7_readMoment_399 ?_
                                          refine v_lload C dX7_readMoment_400 rfl ?_
                                          refine v_ladd C dX7_readMoment_402 ?_
                                          refine v_l2i C dX7_readMoment_403 ?_
                                          refine v_istore C dX7_readMoment_404 sl_22_11 (by decide) rfl ?_
                                          refine v_aload_n C dX7_readMoment_406 rfl ?_
                                          refine v_getf C g48 hR.1 rfl dX7_readMoment_407 ?_
                                          refine v_iload C dX7_readMoment_410 rfl ?_
                                          refine v_iload C dX7_readMoment_412 rfl ?_
                                          refine m_st_25 C hR (⟨by omega, by omega⟩) (by omega) (by omega) dX7_readMoment_414 (fun w hR hF9 => ?_)
                                          have hF := hF.tr hF9
                                          refine v_aload_n C dX7_readMoment_415 rfl ?_
                                          refine v_getf C g60 hR.1 rfl dX7_readMoment_416 ?_
                                          refine v_aload_n C dX7_readMoment_419 rfl ?_
                                          refine v_getf C g173 hR.1 rfl dX7_readMoment_420 ?_
                                          refine v_iload C dX7_readMoment_423 rfl ?_
                                          refine m_st_30 C hR (⟨by omega, by omega⟩) (by omega) (by omega) dX7_readMoment_425 (fun w hR hF9 => ?_)
                                          have hF := hF.tr hF9
                                          refine v_aload_n C dX7_readMoment_426 rfl ?_
                                          refine v_getf C g63 hR.1 rfl dX7_readMoment_427 ?_
                                          refine v_aload_n C dX7_readMoment_430 rfl ?_
                                          refine v_getf C g173 hR.1 rfl dX7_readMoment_431 ?_
                                          refine v_iload C dX7_readMoment_434 rfl ?_
                                          refine m_st_31 C hR (⟨by omega, by omega⟩) (by omega) (by omega) dX7_readMoment_436 (fun w hR hF9 => ?_)
                                          have hF := hF.tr hF9
                                          refine v_aload_n C dX7_readMoment_437 rfl ?_
                                          refine v_dup C rfl dX7_readMoment_438 ?_
                                          refine v_getf C g173 hR.1 rfl dX7_readMoment_439 ?_
                                          refine v_iconst C dX7_readMoment_442 ?_
                                          refine v_iadd C dX7_readMoment_443 ?_
                                          refine m_put_32 C p173 hR dX7_readMoment_444 (fun w hR hF9 => ?_)
                                          have hF := hF.tr hF9
                                          refine v_aload_n C dX7_readMoment_447 rfl ?_
                                          refine v_getf C g57 hR.1 rfl dX7_readMoment_448 ?_
                                          refine v_aload_n C dX7_readMoment_451 rfl ?_
                                          refine v_getf C g165 hR.1 rfl dX7_readMoment_452 ?_
                                          refine v_dup2 C rfl rfl dX7_readMoment_455 ?_
                                          refine v_iald C hR.a28 (⟨by omega, by omega⟩) (by omega) (by omega) dX7_readMoment_456 ?_
                                          refine v_iconst C dX7_readMoment_457 ?_
                                          refine v_iadd C dX7_readMoment_458 ?_
                                          refine m_st_28 C hR (⟨by omega, by omega⟩) (by omega) (by omega) dX7_readMoment_459 (fun w hR hF9 => ?_)
                                          have hF := hF.tr hF9
                                          rw [upI_eq, upI_up] at hR
                                          refine v_lload C dX7_readMoment_460 rfl ?_
                                          refine v_lconst C (v := 1) dX7_readMoment_462 rfl ?_
                                          refine v_ladd C dX7_readMoment_463 ?_
                                          refine v_lstore C dX7_readMoment_464 sj_22_12 (by decide) (Nat.le_of_ble_eq_true rfl) rfl ?_
                                          refine v_goto C (tgt := 213) dX7_readMoment_466 (by decide) ?_
                                          refine v_kill 14 sk_22_14 ?_
                                          refine v_kill 16 sk_22_16 ?_
                                          refine v_kill 18 sk_22_18 ?_
                                          refine v_kill 20 sk_22_20 ?_
                                          refine v_kill 21 sk_22_21 ?_
                                          obtain ⟨hA1, hA2, hA3, hA4, hA5, hA6, hA7, hA8, hA9, hA10⟩ := hI1
                                          have hgo := pch_go (A1 := A1) (S := C25) (p := p9) (n := x_161 - k9) hav4.1 hav4.2 (by omega) c_271 hk3.1 hq hk3.2 hk6.1 hk6.2 c_258 c_286 (h382.nz c_386)
                                          rw [hgo] at hA2 hA3 hA5 hA6 hA7 hA8 hA9
                                          rw [show x_161 - k9 - 1 = x_161 - (k9 + 1) by omega] at hA2 hA3 hA5 hA6 hA7 hA8 hA9
                                          have hw9 := h382.nz c_386
                                          exact ih _ (k9 + 1) (64 * (x_230 + q) + x_276 / 16) av276 _ _ (rc4 + 1) (cnt4 + 1) _ _ _ hR hF (Or.inl ⟨rfl, hA2, hA3, hA4, hA5, hA6, hA7, by rw [← hA8, List.length_cons]; omega, by rw [← hA9, List.length_cons]; omega, by omega, by omega⟩) ⟨by omega, by omega⟩ ⟨by omega, by omega⟩ ⟨by omega, by omega⟩ (fun i a b => by
                                            unfold upI
                                            by_cases g : i = (64 * (x_230 + q) + x_276 / 16)
                                            · rw [if_pos g]; omega
                                            · rw [if_neg g]; exact h25 i a b) (fun i a => by
                                            unfold upI
                                            rw [if_neg (fun g => a ⟨by omega, by omega⟩)]
                                            exact hz25 i a) (by omega)
                                        · refine v_aload_n C dX7_readMoment_389 rfl ?_
                                          refine v_callVv C (q := (RX7, TX7, 33)) (As := []) (rest := []) (c_X7_fail hR ⟨by omega, by omega⟩) (cwV 0 hts gX7_readMoment_X7_fail rfl rfl rfl (by decide +kernel) ⟨Nat.le_of_ble_eq_true rfl, Nat.le_of_ble_eq_true rfl⟩) hR.1 rfl rfl rfl (Nat.le_of_ble_eq_true rfl) dX7_readMoment_390 (Nat.le_of_ble_eq_true rfl) (Nat.le_of_ble_eq_true rfl) (fun w hp => ?_)
                                          obtain ⟨hR, hF9⟩ := hp
                                          have hF := hF.tr hF9
                                          refine v_wide (k' := 0) (z' := 0) (Nat.le_refl _) (Nat.le_refl _) ?_
                                          exact v_vret C rfl dX7_readMoment_393 (Nat.le_refl _) (Nat.le_refl _) (by
                                                rw [if_pos rfl] at hR
                                                have hRV : RR.1 = av230 := hI1.2.1.trans (pch_f4 (by omega) c_271 hk3.1 hq hk3.2 hk6.1 c_258 c_286 (h382.z c_386))
                                                exact hPO _ ⟨hF, _, _, _, _, _, _, _, _, _, _, by rw [hRV]; exact hR, fun g => absurd (hRV.symm.trans g) (by omega), by rw [hRV]; exact ⟨by omega, by omega⟩, hz25, by omega⟩)
                                      refine v_iload C dX7_readMoment_352 rfl ?_
                                      refine v_if_eq C (h350.r32) (tgt := 381) dX7_readMoment_354 (by decide) (fun c_354 => ?_) (fun c_354 => ?_)
                                      · refine v_iconst C dX7_readMoment_381 ?_
                                        refine v_kill 21 sk_22_21 ?_
                                        exact J382 _ (Or.inr ⟨rfl, fun g => h350.z c_354 ⟨g.1, g.2.1, g.2.2.1⟩⟩)
                                      · have h99 := h350.nz c_354
                                        have h25w := h25 (64 * (x_230 + q) + x_276 / 16) (by omega) (by omega)
                                        refine v_aload_n C dX7_readMoment_357 rfl ?_
                                        refine v_getf C g48 hR.1 rfl dX7_readMoment_358 ?_
                                        refine v_ldc2 C (v := 64) (List.mem_of_getElem? (i := 12) rfl) (by decide +kernel) dX7_readMoment_361 ?_
                                        refine v_lload C dX7_readMoment_364 rfl ?_
                                        refine v_lmul C dX7_readMoment_366 ?_
                                        refine v_lload C dX7_readMoment_367 rfl ?_
                                        refine v_ladd C dX7_readMoment_369 ?_
                                        refine v_l2i C dX7_readMoment_370 ?_
                                        refine v_iald C hR.a25 (⟨by omega, by omega⟩) (by omega) (by omega) dX7_readMoment_371 ?_
                                        refine v_iload C dX7_readMoment_372 rfl ?_
                                        refine v_icmp_eq C (⟨by omega, by omega⟩) (⟨by omega, by omega⟩) (tgt := 381) dX7_readMoment_374 (by decide) (fun c_374 => ?_) (fun c_374 => ?_)
                                        · refine v_iconst C dX7_readMoment_381 ?_
                                          refine v_kill 21 sk_22_21 ?_
                                          exact J382 _ (Or.inr ⟨rfl, fun g => g.2.2.2 c_374⟩)
                                        · refine v_iconst C dX7_readMoment_377 ?_
                                          refine v_goto C (tgt := 382) dX7_readMoment_378 (by decide) ?_
                                          refine v_kill 21 sk_22_21 ?_
                                          have h9 := h350.nz c_354
                                          exact J382 _ (Or.inl ⟨rfl, h9.1, h9.2.1, h9.2.2, c_374⟩)
                                    refine v_lload C dX7_readMoment_307 rfl ?_
                                    refine v_aload_n C dX7_readMoment_309 rfl ?_
                                    refine v_getf C g7 hR.1 rfl dX7_readMoment_310 ?_
                                    refine v_lload C dX7_readMoment_313 rfl ?_
                                    refine v_l2i C dX7_readMoment_315 ?_
                                    refine v_iald C hR.a1 (⟨by omega, by omega⟩) (by omega) (by omega) dX7_readMoment_316 ?_
                                    refine v_i2l C (⟨by omega, by omega⟩) dX7_readMoment_317 ?_
                                    refine v_lcmp_ge C (⟨by omega, by omega⟩) (⟨by omega, by omega⟩) (tgt := 349) dX7_readMoment_318 dX7_readMoment_319 (by decide) (fun c_318 => ?_) (fun c_318 => ?_)
                                    · refine v_iconst C dX7_readMoment_349 ?_
                                      exact J350 _ (Or.inr ⟨rfl, by omega⟩)
                                    · refine v_iload C dX7_readMoment_322 rfl ?_
                                      refine v_bipush C dX7_readMoment_324 rfl ?_
                                      refine v_icmp_ge C (⟨by omega, by omega⟩) (⟨by omega, by omega⟩) (tgt := 349) dX7_readMoment_326 (by decide) (fun c_326 => ?_) (fun c_326 => ?_)
                                      · refine v_iconst C dX7_readMoment_349 ?_
                                        exact J350 _ (Or.inr ⟨rfl, by omega⟩)
                                      · refine v_ldc2 C (v := 64) (List.mem_of_getElem? (i := 12) rfl) (by decide +kernel) dX7_readMoment_329 ?_
                                        refine v_lload C dX7_readMoment_332 rfl ?_
                                        refine v_lmul C dX7_readMoment_334 ?_
                                        refine v_lload C dX7_readMoment_335 rfl ?_
                                        refine v_ladd C dX7_readMoment_337 ?_
                                        refine v_iload C dX7_readMoment_338 rfl ?_
                                        refine v_i2l C (⟨by omega, by omega⟩) dX7_readMoment_340 ?_
                                        refine v_lcmp_le C (⟨by omega, by omega⟩) (⟨by omega, by omega⟩) (tgt := 349) dX7_readMoment_341 dX7_readMoment_342 (by decide) (fun c_341 => ?_) (fun c_341 => ?_)
                                        · refine v_iconst C dX7_readMoment_349 ?_
                                          exact J350 _ (Or.inr ⟨rfl, by omega⟩)
                                        · refine v_iconst C dX7_readMoment_345 ?_
                                          refine v_goto C (tgt := 350) dX7_readMoment_346 (by decide) ?_
                                          exact J350 _ (Or.inl ⟨rfl, by omega⟩)
                                  · exact v_vret C rfl dX7_readMoment_289 (Nat.le_refl _) (Nat.le_refl _) (by
                                          have hRV : RR.1 = rcF A20 ts av230 := hI1.2.1.trans (pch_f3 (by omega) c_271 hk3.1 hq hk3.2 c_258 c_286)
                                          exact hPO _ ⟨hF, _, _, _, _, _, _, _, _, _, _, by rw [hRV]; exact hR, fun g => absurd (hRV.symm.trans g) (by omega), by rw [hRV]; exact ⟨by omega, by omega⟩, hz25, by omega⟩)
                                · exact v_vret C rfl dX7_readMoment_274 (Nat.le_refl _) (Nat.le_refl _) (by
                                        have hRV : RR.1 = rcF A20 ts av4 := hI1.2.1.trans (pch_f1 (by omega) c_271)
                                        exact hPO _ ⟨hF, _, _, _, _, _, _, _, _, _, _, by rw [hRV]; exact hR, fun g => absurd (hRV.symm.trans g) (by omega), by rw [hRV]; exact ⟨by omega, by omega⟩, hz25, by omega⟩)
                              · refine v_aload_n C dX7_readMoment_262 rfl ?_
                                refine v_callVv C (q := (RX7, TX7, 33)) (As := []) (rest := []) (c_X7_fail hR ⟨by omega, by omega⟩) (cwV 0 hts gX7_readMoment_X7_fail rfl rfl rfl (by decide +kernel) ⟨Nat.le_of_ble_eq_true rfl, Nat.le_of_ble_eq_true rfl⟩) hR.1 rfl rfl rfl (Nat.le_of_ble_eq_true rfl) dX7_readMoment_263 (Nat.le_of_ble_eq_true rfl) (Nat.le_of_ble_eq_true rfl) (fun w hp => ?_)
                                obtain ⟨hR, hF9⟩ := hp
                                have hF := hF.tr hF9
                                obtain ⟨W263, hW263⟩ : ∃ z : Int, z = (if rcF A20 ts av4 = -1 then av4 else rcF A20 ts av4) := ⟨_, rfl⟩
                                rw [← hW263] at hR
                                have hV263 := ite_W hW263
                                refine v_wide (k' := 0) (z' := 0) (Nat.le_refl _) (Nat.le_refl _) ?_
                                refine v_aload_n C dX7_readMoment_266 rfl ?_
                                refine v_getf C g151 hR.1 rfl dX7_readMoment_267 ?_
                                refine v_iconst C dX7_readMoment_270 ?_
                                refine v_icmp_eq C (⟨by omega, by omega⟩) (⟨by omega, by omega⟩) (tgt := 275) dX7_readMoment_271 (by decide) (fun c_271 => ?_) (fun c_271 => ?_)
                                · exact absurd c_271 (by omega)
                                · exact v_vret C rfl dX7_readMoment_274 (Nat.le_refl _) (Nat.le_refl _) (by
                                        have hRV : RR.1 = W263 := by
                                            rcases hV263 with ⟨g1, g2⟩ | ⟨g1, g2⟩
                                            · have h5 := rc_ok (T := A20) (N := ts) (a := av4) hav4.1 hav4.2 g1
                                              have h6 := (ok230 g1).1
                                              have h7 := hwE ⟨by omega, by omega⟩
                                              rw [g2]; exact hI1.2.1.trans (pch_f2 (by omega) g1 h6 hq (by omega))
                                            · rw [g2]; exact hI1.2.1.trans (pch_f1 (by omega) g1)
                                        exact hPO _ ⟨hF, _, _, _, _, _, _, _, _, _, _, by rw [hRV]; exact hR, fun g => absurd (hRV.symm.trans g) (by omega), by rw [hRV]; exact ⟨by omega, by omega⟩, hz25, by omega⟩)
                            refine v_iload C dX7_readMoment_233 rfl ?_
                            refine v_if_ge C (⟨by omega, by omega⟩) (tgt := 242) dX7_readMoment_235 (by decide) (fun c_235 => ?_) (fun c_235 => ?_)
                            · refine v_iload C dX7_readMoment_242 rfl ?_
                              refine v_bipush C dX7_readMoment_244 rfl ?_
                              refine v_idiv C (⟨by omega, by omega⟩) (by omega) (⟨by omega, by omega⟩) (by omega) dX7_readMoment_246 ?_
                              refine v_i2l C (⟨by omega, by omega⟩) dX7_readMoment_247 ?_
                              exact J248 _ (by rw [if_neg (by omega)])
                            · refine v_lconst C (v := 0) dX7_readMoment_238 rfl ?_
                              refine v_goto C (tgt := 248) dX7_readMoment_239 (by decide) ?_
                              exact J248 _ (by rw [if_pos (by omega)])
                    refine L213 _ _ 0 (-1) av3 _ _ rc 0 _ _ _ hR hF ?_ ⟨by omega, by omega⟩ ⟨by omega, by omega⟩ ⟨by omega, by omega⟩ h25 (fun _ _ => rfl) (Nat.lt_succ_self _)
                    rcases h177 with ⟨q1, q2, q3, q4, q5⟩ | q
                    · have hR5 : RR = ((pch A20 ts nw A1 x_161 av3 (-1) A25).1, (pch A20 ts nw A1 x_161 av3 (-1) A25).2.1, t1, s2, (pch A20 ts nw A1 x_161 av3 (-1) A25).2.2) := by rw [hRT, pmT, if_neg (fun g => g q5), if_neg (by omega), ← q4, ← q2]
                      exact Or.inl ⟨q1, by rw [hR5, Int.sub_zero], by rw [hR5, Int.sub_zero], ⟨by rw [hR5], by rw [hR5]⟩, by rw [hR5, Int.sub_zero], by rw [hR5, Int.sub_zero], by rw [hR5, Int.sub_zero], by rw [hR5, Int.sub_zero], by rw [hR5, Int.sub_zero, Int.zero_add], by omega, by omega⟩
                    · exact Or.inr q
                  refine v_lload C dX7_readMoment_166 rfl ?_
                  refine v_lconst C (v := 0) dX7_readMoment_168 rfl ?_
                  refine v_lcmp_ne C (⟨by omega, by omega⟩) (⟨by omega, by omega⟩) (tgt := 177) dX7_readMoment_169 dX7_readMoment_170 (by decide) (fun c_169 => ?_) (fun c_169 => ?_)
                  · exact J177 _ _ _ _ hR hF (by
                      by_cases q : rcF A20 ts av2 = -1
                      · exact Or.inl ⟨q, (ok161 q).1, by omega, (ok161 q).2, q⟩
                      · exact Or.inr ⟨q, by rw [hRT, pmT, if_pos q], by omega, by omega⟩) (by
                      by_cases q : rcF A20 ts av2 = -1
                      · have h5 := rc_ok (T := A20) (N := ts) (a := av2) (by omega) (by omega) q
                        have h6 := (ok161 q).2
                        exact Or.inl ⟨by omega, by omega, by omega⟩
                      · exact Or.inr ⟨q, by omega, by omega⟩)
                  · refine v_aload_n C dX7_readMoment_173 rfl ?_
                    refine v_callVv C (q := (RX7, TX7, 33)) (As := []) (rest := []) (c_X7_fail hR ⟨by omega, by omega⟩) (cwV 0 hts gX7_readMoment_X7_fail rfl rfl rfl (by decide +kernel) ⟨Nat.le_of_ble_eq_true rfl, Nat.le_of_ble_eq_true rfl⟩) hR.1 rfl rfl rfl (Nat.le_of_ble_eq_true rfl) dX7_readMoment_174 (Nat.le_of_ble_eq_true rfl) (Nat.le_of_ble_eq_true rfl) (fun w hp => ?_)
                    obtain ⟨hR, hF9⟩ := hp
                    have hF := hF.tr hF9
                    obtain ⟨W174, hW174⟩ : ∃ z : Int, z = (if rcF A20 ts av2 = -1 then av2 else rcF A20 ts av2) := ⟨_, rfl⟩
                    rw [← hW174] at hR
                    have hV174 := ite_W hW174
                    refine v_wide (k' := 0) (z' := 0) (Nat.le_refl _) (Nat.le_refl _) ?_
                    exact J177 _ _ _ _ hR hF (Or.inr ⟨by omega, by
                      rcases hV174 with ⟨q, q2⟩ | ⟨q, q2⟩
                      · rw [hRT, pmT, if_neg (fun g => g q), if_pos (by rw [← (ok161 q).1]; exact c_169), q2]
                      · rw [hRT, pmT, if_pos q, q2], by omega, by omega⟩) (Or.inr ⟨by omega, by omega, by omega⟩)
                refine v_ldc2 C (v := 2) (List.mem_of_getElem? (i := 5) rfl) (by decide +kernel) dX7_readMoment_125 ?_
                refine v_lrem C (⟨by omega, by omega⟩) (by omega) (⟨by omega, by omega⟩) (by omega) dX7_readMoment_128 ?_
                refine v_lconst C (v := 0) dX7_readMoment_129 rfl ?_
                refine v_lcmp_ne C (⟨by omega, by omega⟩) (⟨by omega, by omega⟩) (tgt := 160) dX7_readMoment_130 dX7_readMoment_131 (by decide) (fun c_130 => ?_) (fun c_130 => ?_)
                · refine v_kill 5 sk_22_5 ?_
                  refine v_kill 7 sk_22_7 ?_
                  have hodd : x_49 % 2 = 1 := by omega
                  rw [if_pos hodd] at ht1 hs1
                  exact J160 _ _ _ _ hR hF (by rw [hRR, pmo, if_neg (fun g => g c_67), if_neg (by rw [← hk1, if_pos hodd, if_pos hodd, ← ht1, ← hs1]; omega), ← hk1, if_pos hodd, ← hk2, ht1, hs1]) ⟨by omega, by omega⟩ ⟨by omega, by omega⟩
                · refine v_aload_n C dX7_readMoment_134 rfl ?_
                  refine v_callVl C (q := (RX7, TX7, 33)) (As := []) (rest := []) (c_X7_count hR ⟨by omega, by omega, by omega⟩ hT rfl) (cwV 0 hts gX7_readMoment_X7_count rfl rfl rfl (by decide +kernel) ⟨Nat.le_of_ble_eq_true rfl, Nat.le_of_ble_eq_true rfl⟩) hR.1 rfl rfl rfl (Nat.le_of_ble_eq_true rfl) dX7_readMoment_135 (Nat.le_of_ble_eq_true rfl) (Nat.le_of_ble_eq_true rfl) (fun x_135 w hp => ?_)
                  obtain ⟨hF9, hx135, hy135, av135, hR, ok135, hv135⟩ := hp
                  have hF := hF.tr hF9
                  have hb135 := rcF_bd (T := A20) (N := ts) (a := av49) (by omega) (by omega)
                  refine v_wide (k' := 0) (z' := 0) (Nat.le_refl _) (Nat.le_refl _) ?_
                  refine v_lstore_n C dX7_readMoment_138 sj_22_3 (by decide) (Nat.le_of_ble_eq_true rfl) rfl ?_
                  refine v_lload_n C dX7_readMoment_139 rfl ?_
                  refine v_ldc2 C (v := 1152921504606846976) (List.mem_of_getElem? (i := 7) rfl) (by decide +kernel) dX7_readMoment_140 ?_
                  refine v_lcmp_lt C (⟨by omega, by omega⟩) (⟨by omega, by omega⟩) (tgt := 151) dX7_readMoment_143 dX7_readMoment_144 (by decide) (fun c_143 => ?_) (fun c_143 => ?_)
                  · refine v_aload_n C dX7_readMoment_151 rfl ?_
                    refine v_getf C g151 hR.1 rfl dX7_readMoment_152 ?_
                    refine v_iconst C dX7_readMoment_155 ?_
                    refine v_icmp_eq C (⟨by omega, by omega⟩) (⟨by omega, by omega⟩) (tgt := 160) dX7_readMoment_156 (by decide) (fun c_156 => ?_) (fun c_156 => ?_)
                    · refine v_kill 5 sk_22_5 ?_
                      refine v_kill 7 sk_22_7 ?_
                      have hev : ¬ x_49 % 2 = 1 := by omega
                      rw [if_neg hev] at ht1 hs1
                      have hk5 := ok135 c_156
                      have hrc5 := rc_ok (T := A20) (N := ts) (a := av49) (by omega) (by omega) c_156
                      rw [c_156] at hR
                      exact J160 _ _ _ _ hR hF (by rw [hRR, pmo, if_neg (fun g => g c_67), if_neg (by rw [← hk1, if_neg hev, if_neg hev, ← ht1, ← hs1]; omega), ← hk1, if_neg hev, ← hk2, if_neg (fun g => g c_156), ← hk5.1, if_neg (by omega), ← hk5.2, ht1]) ⟨by omega, by omega⟩ ⟨by omega, by omega⟩
                    · exact v_vret C rfl dX7_readMoment_159 (Nat.le_refl _) (Nat.le_refl _) (by
                            have hRV : RR.1 = rcF A20 ts av49 := by rw [hRR, pmo, if_neg (fun g => g c_67), if_neg (by rw [← hk1, ← ht1, ← hs1]; omega), ← hk1, if_neg (by omega), ← hk2, if_pos c_156]
                            exact hPO _ ⟨hF, _, _, _, _, _, _, _, _, _, _, by rw [hRV]; exact hR, fun g => absurd (hRV.symm.trans g) (by omega), by rw [hRV]; exact ⟨by omega, by omega⟩, (fun _ _ => rfl), by omega⟩)
                  · refine v_aload_n C dX7_readMoment_147 rfl ?_
                    refine v_callVv C (q := (RX7, TX7, 33)) (As := []) (rest := []) (c_X7_fail hR ⟨by omega, by omega⟩) (cwV 0 hts gX7_readMoment_X7_fail rfl rfl rfl (by decide +kernel) ⟨Nat.le_of_ble_eq_true rfl, Nat.le_of_ble_eq_true rfl⟩) hR.1 rfl rfl rfl (Nat.le_of_ble_eq_true rfl) dX7_readMoment_148 (Nat.le_of_ble_eq_true rfl) (Nat.le_of_ble_eq_true rfl) (fun w hp => ?_)
                    obtain ⟨hR, hF9⟩ := hp
                    have hF := hF.tr hF9
                    obtain ⟨W148, hW148⟩ : ∃ z : Int, z = (if rcF A20 ts av49 = -1 then av49 else rcF A20 ts av49) := ⟨_, rfl⟩
                    rw [← hW148] at hR
                    have hV148 := ite_W hW148
                    refine v_wide (k' := 0) (z' := 0) (Nat.le_refl _) (Nat.le_refl _) ?_
                    refine v_aload_n C dX7_readMoment_151 rfl ?_
                    refine v_getf C g151 hR.1 rfl dX7_readMoment_152 ?_
                    refine v_iconst C dX7_readMoment_155 ?_
                    refine v_icmp_eq C (⟨by omega, by omega⟩) (⟨by omega, by omega⟩) (tgt := 160) dX7_readMoment_156 (by decide) (fun c_156 => ?_) (fun c_156 => ?_)
                    · exact absurd c_156 (by omega)
                    · exact v_vret C rfl dX7_readMoment_159 (Nat.le_refl _) (Nat.le_refl _) (by
                            have hRV : RR.1 = W148 := by
                                rcases hV148 with ⟨g1, g2⟩ | ⟨g1, g2⟩
                                · rw [hRR, pmo, if_neg (fun g => g c_67), if_neg (by rw [← hk1, ← ht1, ← hs1]; omega), ← hk1, if_neg (by omega), ← hk2, if_neg (fun g => g g1), if_pos (by rw [← (ok135 g1).1]; exact c_143), g2]
                                · rw [hRR, pmo, if_neg (fun g => g c_67), if_neg (by rw [← hk1, ← ht1, ← hs1]; omega), ← hk1, if_neg (by omega), ← hk2, if_pos g1, g2]
                            exact hPO _ ⟨hF, _, _, _, _, _, _, _, _, _, _, by rw [hRV]; exact hR, fun g => absurd (hRV.symm.trans g) (by omega), by rw [hRV]; exact ⟨by omega, by omega⟩, (fun _ _ => rfl), by omega⟩)
              · refine v_aload_n C dX7_readMoment_118 rfl ?_
                refine v_callVv C (q := (RX7, TX7, 33)) (As := []) (rest := []) (c_X7_fail hR ⟨by omega, by omega⟩) (cwV 0 hts gX7_readMoment_X7_fail rfl rfl rfl (by decide +kernel) ⟨Nat.le_of_ble_eq_true rfl, Nat.le_of_ble_eq_true rfl⟩) hR.1 rfl rfl rfl (Nat.le_of_ble_eq_true rfl) dX7_readMoment_119 (Nat.le_of_ble_eq_true rfl) (Nat.le_of_ble_eq_true rfl) (fun w hp => ?_)
                obtain ⟨hR, hF9⟩ := hp
                have hF := hF.tr hF9
                refine v_wide (k' := 0) (z' := 0) (Nat.le_refl _) (Nat.le_refl _) ?_
                exact v_vret C rfl dX7_readMoment_122 (Nat.le_refl _) (Nat.le_refl _) (by
                      rw [if_pos rfl] at hR
                      have hRV : RR.1 = av := by rw [hRR, pmo, if_neg (fun g => g c_67), if_pos (by rw [← hk1, ← ht1, ← hs1]; omega)]
                      exact hPO _ ⟨hF, _, _, _, _, _, _, _, _, _, _, by rw [hRV]; exact hR, fun g => absurd (hRV.symm.trans g) (by omega), by rw [hRV]; exact ⟨by omega, by omega⟩, (fun _ _ => rfl), by omega⟩)
        refine v_ldc2 C (v := 2) (List.mem_of_getElem? (i := 5) rfl) (by decide +kernel) dX7_readMoment_73 ?_
        refine v_lrem C (⟨by omega, by omega⟩) (by omega) (⟨by omega, by omega⟩) (by omega) dX7_readMoment_76 ?_
        refine v_lconst C (v := 1) dX7_readMoment_77 rfl ?_
        refine v_lcmp_ne C (⟨by omega, by omega⟩) (⟨by omega, by omega⟩) (tgt := 90) dX7_readMoment_78 dX7_readMoment_79 (by decide) (fun c_78 => ?_) (fun c_78 => ?_)
        · refine v_lload_n C dX7_readMoment_90 rfl ?_
          refine v_lload C dX7_readMoment_91 rfl ?_
          refine v_ladd C dX7_readMoment_93 ?_
          refine v_lstore_n C dX7_readMoment_94 sj_22_1 (by decide) (Nat.le_of_ble_eq_true rfl) rfl ?_
          exact J95 _ _ (by rw [if_neg c_78]) (by rw [if_neg c_78])
        · refine v_lload_n C dX7_readMoment_82 rfl ?_
          refine v_lload C dX7_readMoment_83 rfl ?_
          refine v_ladd C dX7_readMoment_85 ?_
          refine v_lstore_n C dX7_readMoment_86 sj_22_3 (by decide) (Nat.le_of_ble_eq_true rfl) rfl ?_
          refine v_goto C (tgt := 95) dX7_readMoment_87 (by decide) ?_
          exact J95 _ _ (by rw [if_pos c_78]) (by rw [if_pos c_78])
      · exact v_vret C rfl dX7_readMoment_70 (Nat.le_refl _) (Nat.le_refl _) (by
              have hRV : RR.1 = rcF A20 ts av := by rw [hRR, pmo, if_pos c_67]
              exact hPO _ ⟨hF, _, _, _, _, _, _, _, _, _, _, by rw [hRV]; exact hR, fun g => absurd (hRV.symm.trans g) (by omega), by rw [hRV]; exact ⟨by omega, by omega⟩, (fun _ _ => rfl), by omega⟩)
    refine v_aload_n C dX7_readMoment_23 rfl ?_
    refine v_getf C g165 hR.1 rfl dX7_readMoment_24 ?_
    refine v_if_ne C (⟨by omega, by omega⟩) (tgt := 36) dX7_readMoment_27 (by decide) (fun c_27 => ?_) (fun c_27 => ?_)
    · refine v_aload_n C dX7_readMoment_36 rfl ?_
      refine v_getf C g54 hR.1 rfl dX7_readMoment_37 ?_
      refine v_aload_n C dX7_readMoment_40 rfl ?_
      refine v_getf C g165 hR.1 rfl dX7_readMoment_41 ?_
      refine v_iconst C dX7_readMoment_44 ?_
      refine v_isub C dX7_readMoment_45 ?_
      refine v_lald C hR.a27 (⟨by omega, by omega⟩) (by omega) (by omega) dX7_readMoment_46 ?_
      exact J47 _ (by rw [hls9, if_neg c_27])
    · refine v_ldc2 C (v := -1) (List.mem_of_getElem? (i := 3) rfl) (by decide +kernel) dX7_readMoment_30 ?_
      refine v_goto C (tgt := 47) dX7_readMoment_33 (by decide) ?_
      exact J47 _ (by rw [hls9, if_pos c_27])
  refine v_aload_n C dX7_readMoment_0 rfl ?_
  refine v_getf C g165 hR.1 rfl dX7_readMoment_1 ?_
  refine v_if_ne C (⟨by omega, by omega⟩) (tgt := 11) dX7_readMoment_4 (by decide) (fun c_4 => ?_) (fun c_4 => ?_)
  · refine v_aload_n C dX7_readMoment_11 rfl ?_
    refine v_getf C g51 hR.1 rfl dX7_readMoment_12 ?_
    refine v_aload_n C dX7_readMoment_15 rfl ?_
    refine v_getf C g165 hR.1 rfl dX7_readMoment_16 ?_
    refine v_iconst C dX7_readMoment_19 ?_
    refine v_isub C dX7_readMoment_20 ?_
    refine v_lald C hR.a26 (⟨by omega, by omega⟩) (by omega) (by omega) dX7_readMoment_21 ?_
    exact J22 _ (by rw [hlt9, if_neg c_4])
  · refine v_lconst C (v := 0) dX7_readMoment_7 rfl ?_
    refine v_goto C (tgt := 22) dX7_readMoment_8 (by decide) ?_
    exact J22 _ (by rw [hlt9, if_pos c_4])
