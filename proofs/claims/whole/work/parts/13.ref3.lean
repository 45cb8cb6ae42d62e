theorem sk_11_9 {x0 x1 x2 x3 x4 x5 x6 x7 x8 x9 x10 : Option Value} : stK [x0, x1, x2, x3, x4, x5, x6, x7, x8, x9, x10] 9 = [x0, x1, x2, x3, x4, x5, x6, x7, x8, none, x10] := rfl
theorem sk_11_10 {x0 x1 x2 x3 x4 x5 x6 x7 x8 x9 x10 : Option Value} : stK [x0, x1, x2, x3, x4, x5, x6, x7, x8, x9, x10] 10 = [x0, x1, x2, x3, x4, x5, x6, x7, x8, x9, none] := rfl
theorem sl_2_1 {x0 x1 : Option Value} {v : Value} : stL [x0, x1] 1 v = [x0, some v] := rfl
theorem sl_5_3 {x0 x1 x2 x3 x4 : Option Value} {v : Value} : stL [x0, x1, x2, x3, x4] 3 v = [x0, x1, x2, some v, x4] := rfl
theorem sl_5_4 {x0 x1 x2 x3 x4 : Option Value} {v : Value} : stL [x0, x1, x2, x3, x4] 4 v = [x0, x1, x2, x3, some v] := rfl
theorem sl_11_7 {x0 x1 x2 x3 x4 x5 x6 x7 x8 x9 x10 : Option Value} {v : Value} : stL [x0, x1, x2, x3, x4, x5, x6, x7, x8, x9, x10] 7 v = [x0, x1, x2, x3, x4, x5, x6, some v, x8, x9, x10] := rfl
theorem sl_11_8 {x0 x1 x2 x3 x4 x5 x6 x7 x8 x9 x10 : Option Value} {v : Value} : stL [x0, x1, x2, x3, x4, x5, x6, x7, x8, x9, x10] 8 v = [x0, x1, x2, x3, x4, x5, x6, x7, some v, x9, x10] := rfl
theorem sl_11_9 {x0 x1 x2 x3 x4 x5 x6 x7 x8 x9 x10 : Option Value} {v : Value} : stL [x0, x1, x2, x3, x4, x5, x6, x7, x8, x9, x10] 9 v = [x0, x1, x2, x3, x4, x5, x6, x7, x8, some v, x10] := rfl
theorem sl_11_10 {x0 x1 x2 x3 x4 x5 x6 x7 x8 x9 x10 : Option Value} {v : Value} : stL [x0, x1, x2, x3, x4, x5, x6, x7, x8, x9, x10] 10 v = [x0, x1, x2, x3, x4, x5, x6, x7, x8, x9, some v] := rfl
/-! what the reference's questions answer -/
def atV (A9 A10 A13 A14 A16 : Int → Int) (t s key : Int) : Nat → Int
  | 0 => 0
  | k + 1 => if A14 k = key ∧ ¬ (t < A9 (A13 k) ∨ (A9 (A13 k) = t ∧ s < A10 (A13 k))) then A16 k else atV A9 A10 A13 A14 A16 t s key k
def nxV (A13 A14 : Int → Int) (m w : Int) : Nat → Int → Int
  | 0, _ => -1
  | n + 1, a => if m ≤ A13 a ∧ A14 a / 64 = w then A13 a else nxV A13 A14 m w n (a + 1)
theorem upI_same {f : Int → Int} {i x : Int} (h : f i = x) : upI f i x = f := funext fun j => by
  unfold upI
  by_cases q : j = i
  · rw [if_pos q, q, h]
  · rw [if_neg q]
/-- the bytes of an int, the highest first -/
def fbL (x : Int) : Nat → List Int
  | 0 => []
  | n + 1 => (x / 2 ^ (8 * n)) % 256 :: fbL x n
theorem ishr_I {a : Int} (ha : R32 a) {b : Int} {n : Nat} (hb : b = n) (hn : n < 32) : iI a >>> (iI b &&& 31) = iI (a / 2 ^ n) := by
  subst hb
  have h1 : iI (n : Int) &&& 31 = iI (n : Int) := by
    have : ∀ k : Nat, k < 32 → iI (k : Int) &&& 31 = iI (k : Int) := by decide +kernel
    exact this n hn
  rw [h1]
  have h2 : ((iI (n : Int)).toBitVec.smod 32).toNat = n := by
    have : ∀ k : Nat, k < 32 → ((iI (k : Int)).toBitVec.smod 32).toNat = k := by decide +kernel
    exact this n hn
  have h3 := pk_shr (iI a) (iI (n : Int)) n h2
  rw [iI_t ha] at h3
  apply Int32.toInt.inj
  rw [h3, Int.shiftRight_eq_div_pow]
  have hd : a / 2 ^ n ≤ a ∨ a < 0 := by
    by_cases q : a < 0
    · exact Or.inr q
    · exact Or.inl (Int.ediv_le_self _ (by omega))
  have hp : (0 : Int) < 2 ^ n := Int.pow_pos (by omega)
  have h5 : -2147483648 ≤ a / 2 ^ n := by
    have h6 : a ≤ 0 → a ≤ a / 2 ^ n := fun q => Int.le_ediv_of_mul_le hp (by
      have : a * 2 ^ n ≤ a * 1 := Int.mul_le_mul_of_nonpos_left q (by omega)
      omega)
    by_cases q : a ≤ 0
    · have := h6 q; omega
    · have := Int.ediv_nonneg (show 0 ≤ a by omega) (show (0 : Int) ≤ 2 ^ n by omega); omega
  have h7 : a / 2 ^ n < 2147483648 := by
    by_cases q : a < 0
    · have := Int.ediv_lt_of_lt_mul (a := a) (b := 1) hp (by omega); omega
    · have := Int.ediv_le_self (a := a) (2 ^ n) (by omega); omega
  exact (iI_t ⟨h5, h7⟩).symm
theorem iand_255 (a : Int) : iI a &&& iI 255 = iI (a % 256) := by
  rw [pk_and (iI a) (m := iI 255) 8 (by decide +kernel)]
  have h : (iI a).toBitVec.toNat = (a % 4294967296).toNat := by
    show (BitVec.ofInt 32 a).toNat = _
    rw [BitVec.toNat_ofInt]
    rfl
  rw [h]
  show Int32.ofNat _ = Int32.ofInt _
  rw [← Int32.ofInt_eq_ofNat]
  congr 1
  omega
theorem cnt_bd (f : Int → Int) (i : Int) : ∀ n : Nat, 0 ≤ cnt f i n ∧ cnt f i n ≤ n
  | 0 => ⟨Int.le_refl _, Int.le_refl _⟩
  | n + 1 => by
    have h := cnt_bd f i n
    unfold cnt
    by_cases q : f n = i
    · rw [if_pos q]; omega
    · rw [if_neg q]; omega
/-- what the end of a moment makes of the row -/
def FinR (ti sp nw nm nc sz : Int) (A3 A4 A9 A10 A11 A13 A14 A15 A16 A18 : Int → Int) (nm2 nc2 sz2 : Int) (B3 B9 B10 B11 B13 B14 B15 B16 B18 : Int → Int) : Prop :=
  ((drF A4 A3 (64 * nw).toNat 0) = [] ∧ nm2 = nm ∧ nc2 = nc ∧ sz2 = sz ∧ B3 = A3 ∧ B9 = A9 ∧ B10 = A10 ∧ B11 = A11 ∧ B13 = A13 ∧ B14 = A14 ∧ B15 = A15 ∧ B16 = A16 ∧ B18 = A18) ∨ ((drF A4 A3 (64 * nw).toNat 0) ≠ [] ∧ nm2 = (nm + 1) ∧ nc2 = (nc + (drF A4 A3 (64 * nw).toNat 0).length) ∧ sz2 = (sz + (encM ti sp (if nm = 0 then 0 else A9 (nm - 1)) (if nm = 0 then -1 else A10 (nm - 1)) A4 (drF A4 A3 (64 * nw).toNat 0)).length) ∧ B3 = (stl A3 A4 (64 * nw)) ∧ B9 = (upI A9 nm ti) ∧ B10 = (upI A10 nm sp) ∧ B11 = (upI A11 nm sz) ∧ B13 = (putL A13 nc ((drF A4 A3 (64 * nw).toNat 0).map (fun _ => nm))) ∧ B14 = (putL A14 nc (drF A4 A3 (64 * nw).toNat 0)) ∧ B15 = (putL A15 nc ((drF A4 A3 (64 * nw).toNat 0).map A3)) ∧ B16 = (putL A16 nc ((drF A4 A3 (64 * nw).toNat 0).map A4)) ∧ B18 = (putL A18 sz (encM ti sp (if nm = 0 then 0 else A9 (nm - 1)) (if nm = 0 then -1 else A10 (nm - 1)) A4 (drF A4 A3 (64 * nw).toNat 0))))
theorem finR_of {G : GG} {r : Nat} {ad : Nat → Nat} {w' : Wd} {c0 nw op sm ti sp nm nc sz ts av fi wr rm rc : Int} {A1 A3 A4 A9 A10 A11 A13 A14 A15 A16 A18 A20 A25 A26 A27 A28 A30 A31 : Int → Int} {x : Int} (h : ((drF A4 A3 (64 * nw).toNat 0) = [] ∧ x = 0 ∧ RefAt G r ad w' c0 nw op sm ti sp nm nc sz ts av fi wr rm rc A1 A3 A4 A9 A10 A11 A13 A14 A15 A16 A18 A20 A25 A26 A27 A28 A30 A31) ∨ ((drF A4 A3 (64 * nw).toNat 0) ≠ [] ∧ x = (drF A4 A3 (64 * nw).toNat 0).length ∧ RefAt G r ad w' c0 nw op sm ti sp (nm + 1) (nc + (drF A4 A3 (64 * nw).toNat 0).length) (sz + (encM ti sp (if nm = 0 then 0 else A9 (nm - 1)) (if nm = 0 then -1 else A10 (nm - 1)) A4 (drF A4 A3 (64 * nw).toNat 0)).length) ts av fi wr rm rc A1 (stl A3 A4 (64 * nw)) A4 (upI A9 nm ti) (upI A10 nm sp) (upI A11 nm sz) (putL A13 nc ((drF A4 A3 (64 * nw).toNat 0).map (fun _ => nm))) (putL A14 nc (drF A4 A3 (64 * nw).toNat 0)) (putL A15 nc ((drF A4 A3 (64 * nw).toNat 0).map A3)) (putL A16 nc ((drF A4 A3 (64 * nw).toNat 0).map A4)) (putL A18 sz (encM ti sp (if nm = 0 then 0 else A9 (nm - 1)) (if nm = 0 then -1 else A10 (nm - 1)) A4 (drF A4 A3 (64 * nw).toNat 0))) A20 A25 A26 A27 A28 A30 A31)) : ∃ (nm2 nc2 sz2 : Int) (B3 B9 B10 B11 B13 B14 B15 B16 B18 : Int → Int), RefAt G r ad w' c0 nw op sm ti sp nm2 nc2 sz2 ts av fi wr rm rc A1 B3 A4 B9 B10 B11 B13 B14 B15 B16 B18 A20 A25 A26 A27 A28 A30 A31 ∧ FinR ti sp nw nm nc sz A3 A4 A9 A10 A11 A13 A14 A15 A16 A18 nm2 nc2 sz2 B3 B9 B10 B11 B13 B14 B15 B16 B18 ∧ x = (drF A4 A3 (64 * nw).toNat 0).length := by
  rcases h with ⟨h1, h2, h3⟩ | ⟨h1, h2, h3⟩
  · exact ⟨_, _, _, _, _, _, _, _, _, _, _, _, h3, Or.inl ⟨h1, rfl, rfl, rfl, rfl, rfl, rfl, rfl, rfl, rfl, rfl, rfl, rfl⟩, by rw [h2, h1]; rfl⟩
  · exact ⟨_, _, _, _, _, _, _, _, _, _, _, _, h3, Or.inr ⟨h1, rfl, rfl, rfl, rfl, rfl, rfl, rfl, rfl, rfl, rfl, rfl, rfl⟩, h2⟩
theorem finR_0 {ti sp nw nm nc sz : Int} {A3 A4 A9 A10 A11 A13 A14 A15 A16 A18 : Int → Int} (h : (drF A4 A3 (64 * nw).toNat 0) = []) : FinR ti sp nw nm nc sz A3 A4 A9 A10 A11 A13 A14 A15 A16 A18 nm nc sz A3 A9 A10 A11 A13 A14 A15 A16 A18 := Or.inl ⟨h, rfl, rfl, rfl, rfl, rfl, rfl, rfl, rfl, rfl, rfl, rfl, rfl⟩
set_option maxRecDepth 100000 in
set_option maxHeartbeats 8000000 in
theorem c_X7_open {G : GG} {l : Launch} {r : Nat} {ad : Nat → Nat} {w : Wd} {c0 nw op sm ti sp nm nc sz ts av fi wr rm rc : Int} {A1 A3 A4 A9 A10 A11 A13 A14 A15 A16 A18 A20 A25 A26 A27 A28 A30 A31 : Int → Int} {t9 s9 : Int} (hR : RefAt G r ad w c0 nw op sm ti sp nm nc sz ts av fi wr rm rc A1 A3 A4 A9 A10 A11 A13 A14 A15 A16 A18 A20 A25 A26 A27 A28 A30 A31) (h0 : 0 ≤ nw ∧ nw ≤ 200) (h4 : ∀ i, 0 ≤ i → i < 12800 → 0 ≤ A4 i ∧ A4 i ≤ 8) (h3 : ∀ i, 0 ≤ i → i < 12800 → 0 ≤ A3 i ∧ A3 i ≤ 8) (hm : 0 ≤ nm ∧ nm ≤ 15000) (hti : 0 ≤ ti ∧ ti < 1152921504606846976) (hsp : 0 ≤ sp ∧ sp < 1152921504606846976) (hl9 : 0 ≤ (if nm = 0 then 0 else A9 (nm - 1)) ∧ (if nm = 0 then 0 else A9 (nm - 1)) ≤ ti) (hl10 : -1 ≤ (if nm = 0 then -1 else A10 (nm - 1)) ∧ (if nm = 0 then -1 else A10 (nm - 1)) < 1152921504606846976 ∧ (ti = (if nm = 0 then 0 else A9 (nm - 1)) → (if nm = 0 then -1 else A10 (nm - 1)) < sp)) (hnc : 0 ≤ nc ∧ nc + (drF A4 A3 (64 * nw).toNat 0).length ≤ 30001) (hsz : 0 ≤ sz ∧ sz + (encM ti sp (if nm = 0 then 0 else A9 (nm - 1)) (if nm = 0 then -1 else A10 (nm - 1)) A4 (drF A4 A3 (64 * nw).toNat 0)).length ≤ 60000) (hop : op = 0 ∨ op = 1) (hsm : sm = 0 ∨ sm = 1) (hopP : op = 0 → (drF A4 A3 (64 * nw).toNat 0) = []) (ht9 : R64 t9) (hs9 : R64 s9) : MG G l yX7_open wsX7_open 4 160 0 0 [.ref r, .long (lI t9), .long (lI s9)] w (pV (fun (w' : Wd) => Fr mT w w' ∧ ((¬ ((0 ≤ t9 ∧ t9 < 1152921504606846976 ∧ 0 ≤ s9 ∧ s9 < 1152921504606846976) ∧ (sm = 0 ∨ ti < t9 ∨ (t9 = ti ∧ sp < s9))) ∧ RefAt G r ad w' 1 nw op sm ti sp nm nc sz ts av fi wr rm rc A1 A3 A4 A9 A10 A11 A13 A14 A15 A16 A18 A20 A25 A26 A27 A28 A30 A31) ∨ (((0 ≤ t9 ∧ t9 < 1152921504606846976 ∧ 0 ≤ s9 ∧ s9 < 1152921504606846976) ∧ (sm = 0 ∨ ti < t9 ∨ (t9 = ti ∧ sp < s9))) ∧ ∃ (nm2 nc2 sz2 : Int) (B3 B9 B10 B11 B13 B14 B15 B16 B18 : Int → Int), RefAt G r ad w' 0 nw 1 1 t9 s9 nm2 nc2 sz2 ts av fi wr rm rc A1 B3 A4 B9 B10 B11 B13 B14 B15 B16 B18 A20 A25 A26 A27 A28 A30 A31 ∧ FinR ti sp nw nm nc sz A3 A4 A9 A10 A11 A13 A14 A15 A16 A18 nm2 nc2 sz2 B3 B9 B10 B11 B13 B14 B15 B16 B18)))) := by
  refine MG.of (cc := cX7_open) (nL := 6) (ret := none) (ll := [some (.ref r), some (.long (lI t9)), none, some (.long (lI s9)), none, none]) (by decide) rfl (Nat.le_of_ble_eq_true rfl) rfl ?_
  intro p e s m args below meth c C
  have hts := C.2.2.2.2.1
  have p66 : PutF G s m args 66 10 0 (.int) := putF_of C 10 0 tyX7 tyX7_ok nmX7 (T := TX7) (N := 33) (Cn := RX7) (ref := "TraceBookModel") rfl (by decide) (fun _ h => List.mem_cons_of_mem _ (List.mem_append_right _ (h))) (List.mem_of_getElem? (i := 5) rfl) (fun _ h => h) rfl (by decide +kernel)
  have g66 : GetF G s m args 66 10 0 := getF_of C 10 0 (T := TX7) (N := 33) (Cn := RX7) (ref := "TraceBookModel") rfl (by decide) (fun _ h => List.mem_cons_of_mem _ (List.mem_append_right _ (h))) (List.mem_of_getElem? (i := 5) rfl) (fun _ h => h)
  have g138 : GetF G s m args 138 10 5 := getF_of C 10 5 (T := TX7) (N := 33) (Cn := RX7) (ref := "TraceBookModel") rfl (by decide) (fun _ h => List.mem_cons_of_mem _ (List.mem_append_right _ (h))) (List.mem_of_getElem? (i := 6) rfl) (fun _ h => h)
  have p138 : PutF G s m args 138 10 5 (.boolean) := putF_of C 10 5 tyX7 tyX7_ok nmX7 (T := TX7) (N := 33) (Cn := RX7) (ref := "TraceBookModel") rfl (by decide) (fun _ h => List.mem_cons_of_mem _ (List.mem_append_right _ (h))) (List.mem_of_getElem? (i := 6) rfl) (fun _ h => h) rfl (by decide +kernel)
  have p73 : PutF G s m args 73 10 6 (.boolean) := putF_of C 10 6 tyX7 tyX7_ok nmX7 (T := TX7) (N := 33) (Cn := RX7) (ref := "TraceBookModel") rfl (by decide) (fun _ h => List.mem_cons_of_mem _ (List.mem_append_right _ (h))) (List.mem_of_getElem? (i := 2) rfl) (fun _ h => h) rfl (by decide +kernel)
  have p93 : PutF G s m args 93 10 7 (.long) := putF_of C 10 7 tyX7 tyX7_ok nmX7 (T := TX7) (N := 33) (Cn := RX7) (ref := "TraceBookModel") rfl (by decide) (fun _ h => List.mem_cons_of_mem _ (List.mem_append_right _ (h))) (List.mem_of_getElem? (i := 3) rfl) (fun _ h => h) rfl (by decide +kernel)
  have p103 : PutF G s m args 103 10 8 (.long) := putF_of C 10 8 tyX7 tyX7_ok nmX7 (T := TX7) (N := 33) (Cn := RX7) (ref := "TraceBookModel") rfl (by decide) (fun _ h => List.mem_cons_of_mem _ (List.mem_append_right _ (h))) (List.mem_of_getElem? (i := 4) rfl) (fun _ h => h) rfl (by decide +kernel)
  have g73 : GetF G s m args 73 10 6 := getF_of C 10 6 (T := TX7) (N := 33) (Cn := RX7) (ref := "TraceBookModel") rfl (by decide) (fun _ h => List.mem_cons_of_mem _ (List.mem_append_right _ (h))) (List.mem_of_getElem? (i := 2) rfl) (fun _ h => h)
  have g93 : GetF G s m args 93 10 7 := getF_of C 10 7 (T := TX7) (N := 33) (Cn := RX7) (ref := "TraceBookModel") rfl (by decide) (fun _ h => List.mem_cons_of_mem _ (List.mem_append_right _ (h))) (List.mem_of_getElem? (i := 3) rfl) (fun _ h => h)
  have g103 : GetF G s m args 103 10 8 := getF_of C 10 8 (T := TX7) (N := 33) (Cn := RX7) (ref := "TraceBookModel") rfl (by decide) (fun _ h => List.mem_cons_of_mem _ (List.mem_append_right _ (h))) (List.mem_of_getElem? (i := 4) rfl) (fun _ h => h)
  refine poV (P := fun PO => V G p l e _ s m args below meth c (MQW G below args s _ _ (pV PO)) w 0 0 0 _ []) (fun PO hPO => ?_)
  obtain ⟨w0, hw0⟩ : ∃ z, z = w := ⟨_, rfl⟩
  rw [← hw0] at hPO
  have hF : Fr mT w0 w := by rw [hw0]; exact Fr.rf
  have J33 : ∀ q : Int, BP q (0 ≤ t9 ∧ t9 < 1152921504606846976 ∧ 0 ≤ s9 ∧ s9 < 1152921504606846976) → V G p l e { frames := 4, cells := 0, slots := 0, locals := 160 } s m args below meth c (MQW G below args s 0 0 (pV PO)) w 0 0 33 [some (.ref r), some (.long (lI t9)), none, some (.long (lI s9)), none, none] [.int (iI q)] := by
    intro q h33
    refine v_istore C dX7_open_33 sl_6_5 (by decide) rfl ?_
    refine v_aload_n C dX7_open_35 rfl ?_
    have J80 : ∀ q2 : Int, (q2 = 0 ∧ ((0 ≤ t9 ∧ t9 < 1152921504606846976 ∧ 0 ≤ s9 ∧ s9 < 1152921504606846976) ∧ (sm = 0 ∨ ti < t9 ∨ (t9 = ti ∧ sp < s9)))) ∨ (q2 = 1 ∧ ¬ ((0 ≤ t9 ∧ t9 < 1152921504606846976 ∧ 0 ≤ s9 ∧ s9 < 1152921504606846976) ∧ (sm = 0 ∨ ti < t9 ∨ (t9 = ti ∧ sp < s9)))) → V G p l e { frames := 4, cells := 0, slots := 0, locals := 160 } s m args below meth c (MQW G below args s 0 0 (pV PO)) w 0 0 80 [some (.ref r), some (.long (lI t9)), none, some (.long (lI s9)), none, some (.int (iI q))] [.int (iI q2), .ref r] := by
      intro q2 h80
      refine m_put_0 C p66 hR dX7_open_80 (fun w hR hF9 => ?_)
      have hF := hF.tr hF9
      refine v_aload_n C dX7_open_83 rfl ?_
      refine v_getf C g66 hR.1 rfl dX7_open_84 ?_
      refine v_if_le C (⟨by omega, by omega⟩) (tgt := 91) dX7_open_87 (by decide) (fun c_87 => ?_) (fun c_87 => ?_)
      · refine v_aload_n C dX7_open_91 rfl ?_
        refine v_getf C g138 hR.1 rfl dX7_open_92 ?_
        refine v_if_eq C (⟨by omega, by omega⟩) (tgt := 111) dX7_open_95 (by decide) (fun c_95 => ?_) (fun c_95 => ?_)
        · refine v_aload_n C dX7_open_111 rfl ?_
          refine v_iconst C dX7_open_112 ?_
          refine m_put_5 C p138 hR (Or.inr rfl) dX7_open_113 (fun w hR hF9 => ?_)
          have hF := hF.tr hF9
          refine v_aload_n C dX7_open_116 rfl ?_
          refine v_iconst C dX7_open_117 ?_
          refine m_put_6 C p73 hR (Or.inr rfl) dX7_open_118 (fun w hR hF9 => ?_)
          have hF := hF.tr hF9
          refine v_aload_n C dX7_open_121 rfl ?_
          refine v_lload_n C dX7_open_122 rfl ?_
          refine m_put_7 C p93 hR dX7_open_123 (fun w hR hF9 => ?_)
          have hF := hF.tr hF9
          refine v_aload_n C dX7_open_126 rfl ?_
          refine v_lload_n C dX7_open_127 rfl ?_
          refine m_put_8 C p103 hR dX7_open_128 (fun w hR hF9 => ?_)
          have hF := hF.tr hF9
          exact v_vret C rfl dX7_open_131 (Nat.le_refl _) (Nat.le_refl _) (hPO _ ⟨hF, Or.inr ⟨by omega, _, _, _, _, _, _, _, _, _, _, _, _, (show q2 = 0 by omega) ▸ hR, by first | exact hfr | exact finR_0 (hopP (by omega))⟩⟩)
        · refine v_aload_n C dX7_open_98 rfl ?_
          refine v_callVi C (q := (RX7, TX7, 33)) (As := []) (rest := []) (c_X7_finish hR h0 h4 h3 hm hti hsp hl9 hl10 hnc hsz) (cwV 0 hts gX7_open_X7_finish rfl rfl rfl (by decide +kernel) ⟨Nat.le_of_ble_eq_true rfl, Nat.le_of_ble_eq_true rfl⟩) hR.1 rfl rfl rfl (Nat.le_of_ble_eq_true rfl) dX7_open_99 (Nat.le_of_ble_eq_true rfl) (Nat.le_of_ble_eq_true rfl) (fun x_99 w hp => ?_)
          obtain ⟨hF9, hp⟩ := hp
          have hF := hF.tr hF9
          obtain ⟨nm2, nc2, sz2, B3, B9, B10, B11, B13, B14, B15, B16, B18, hR, hfr, e99⟩ := finR_of hp
          refine v_wide (k' := 0) (z' := 0) (Nat.le_refl _) (Nat.le_refl _) ?_
          refine v_if_ge C (⟨by have := drF_len (f := A4) (g := A3) (n := (64 * nw).toNat) (p := 0); omega, by have := drF_len (f := A4) (g := A3) (n := (64 * nw).toNat) (p := 0); omega⟩) (tgt := 111) dX7_open_102 (by decide) (fun c_102 => ?_) (fun c_102 => ?_)
          · refine v_aload_n C dX7_open_111 rfl ?_
            refine v_iconst C dX7_open_112 ?_
            refine m_put_5 C p138 hR (Or.inr rfl) dX7_open_113 (fun w hR hF9 => ?_)
            have hF := hF.tr hF9
            refine v_aload_n C dX7_open_116 rfl ?_
            refine v_iconst C dX7_open_117 ?_
            refine m_put_6 C p73 hR (Or.inr rfl) dX7_open_118 (fun w hR hF9 => ?_)
            have hF := hF.tr hF9
            refine v_aload_n C dX7_open_121 rfl ?_
            refine v_lload_n C dX7_open_122 rfl ?_
            refine m_put_7 C p93 hR dX7_open_123 (fun w hR hF9 => ?_)
            have hF := hF.tr hF9
            refine v_aload_n C dX7_open_126 rfl ?_
            refine v_lload_n C dX7_open_127 rfl ?_
            refine m_put_8 C p103 hR dX7_open_128 (fun w hR hF9 => ?_)
            have hF := hF.tr hF9
            exact v_vret C rfl dX7_open_131 (Nat.le_refl _) (Nat.le_refl _) (hPO _ ⟨hF, Or.inr ⟨by omega, _, _, _, _, _, _, _, _, _, _, _, _, (show q2 = 0 by omega) ▸ hR, by first | exact hfr | exact finR_0 (hopP (by omega))⟩⟩)
          · exfalso; omega
      · exact v_vret C rfl dX7_open_90 (Nat.le_refl _) (Nat.le_refl _) (hPO _ ⟨hF, Or.inl ⟨by omega, (show q2 = 1 by omega) ▸ hR⟩⟩)
    refine v_iload C dX7_open_36 rfl ?_
    refine v_if_eq C (h33.r32) (tgt := 79) dX7_open_38 (by decide) (fun c_38 => ?_) (fun c_38 => ?_)
    · refine v_iconst C dX7_open_79 ?_
      first
        | (have h9 := h33.z c_38; exact J80 _ (Or.inr ⟨rfl, by omega⟩))
        | (have h9 := h33.nz c_38; exact J80 _ (Or.inr ⟨rfl, by omega⟩))
    · refine v_aload_n C dX7_open_41 rfl ?_
      refine v_getf C g73 hR.1 rfl dX7_open_42 ?_
      refine v_if_eq C (⟨by omega, by omega⟩) (tgt := 75) dX7_open_45 (by decide) (fun c_45 => ?_) (fun c_45 => ?_)
      · refine v_iconst C dX7_open_75 ?_
        refine v_goto C (tgt := 80) dX7_open_76 (by decide) ?_
        have h9 := h33.nz c_38
        exact J80 _ (Or.inl ⟨rfl, by omega⟩)
      · refine v_lload_n C dX7_open_48 rfl ?_
        refine v_aload_n C dX7_open_49 rfl ?_
        refine v_getf C g93 hR.1 rfl dX7_open_50 ?_
        refine v_lcmp_gt C (⟨by omega, by omega⟩) (⟨by omega, by omega⟩) (tgt := 75) dX7_open_53 dX7_open_54 (by decide) (fun c_53 => ?_) (fun c_53 => ?_)
        · refine v_iconst C dX7_open_75 ?_
          refine v_goto C (tgt := 80) dX7_open_76 (by decide) ?_
          have h9 := h33.nz c_38
          exact J80 _ (Or.inl ⟨rfl, by omega⟩)
        · refine v_lload_n C dX7_open_57 rfl ?_
          refine v_aload_n C dX7_open_58 rfl ?_
          refine v_getf C g93 hR.1 rfl dX7_open_59 ?_
          refine v_lcmp_ne C (⟨by omega, by omega⟩) (⟨by omega, by omega⟩) (tgt := 79) dX7_open_62 dX7_open_63 (by decide) (fun c_62 => ?_) (fun c_62 => ?_)
          · refine v_iconst C dX7_open_79 ?_
            first
              | (have h9 := h33.z c_38; exact J80 _ (Or.inr ⟨rfl, by omega⟩))
              | (have h9 := h33.nz c_38; exact J80 _ (Or.inr ⟨rfl, by omega⟩))
          · refine v_lload_n C dX7_open_66 rfl ?_
            refine v_aload_n C dX7_open_67 rfl ?_
            refine v_getf C g103 hR.1 rfl dX7_open_68 ?_
            refine v_lcmp_le C (⟨by omega, by omega⟩) (⟨by omega, by omega⟩) (tgt := 79) dX7_open_71 dX7_open_72 (by decide) (fun c_71 => ?_) (fun c_71 => ?_)
            · refine v_iconst C dX7_open_79 ?_
              first
                | (have h9 := h33.z c_38; exact J80 _ (Or.inr ⟨rfl, by omega⟩))
                | (have h9 := h33.nz c_38; exact J80 _ (Or.inr ⟨rfl, by omega⟩))
            · refine v_iconst C dX7_open_75 ?_
              refine v_goto C (tgt := 80) dX7_open_76 (by decide) ?_
              have h9 := h33.nz c_38
              exact J80 _ (Or.inl ⟨rfl, by omega⟩)
  refine v_lload_n C dX7_open_0 rfl ?_
  refine v_lconst C (v := 0) dX7_open_1 rfl ?_
  refine v_lcmp_lt C (⟨by omega, by omega⟩) (⟨by omega, by omega⟩) (tgt := 32) dX7_open_2 dX7_open_3 (by decide) (fun c_2 => ?_) (fun c_2 => ?_)
  · refine v_iconst C dX7_open_32 ?_
    exact J33 _ (Or.inr ⟨rfl, by omega⟩)
  · refine v_lload_n C dX7_open_6 rfl ?_
    refine v_ldc2 C (v := 1152921504606846976) (List.mem_of_getElem? (i := 1) rfl) (by decide +kernel) dX7_open_7 ?_
    refine v_lcmp_ge C (⟨by omega, by omega⟩) (⟨by omega, by omega⟩) (tgt := 32) dX7_open_10 dX7_open_11 (by decide) (fun c_10 => ?_) (fun c_10 => ?_)
    · refine v_iconst C dX7_open_32 ?_
      exact J33 _ (Or.inr ⟨rfl, by omega⟩)
    · refine v_lload_n C dX7_open_14 rfl ?_
      refine v_lconst C (v := 0) dX7_open_15 rfl ?_
      refine v_lcmp_lt C (⟨by omega, by omega⟩) (⟨by omega, by omega⟩) (tgt := 32) dX7_open_16 dX7_open_17 (by decide) (fun c_16 => ?_) (fun c_16 => ?_)
      · refine v_iconst C dX7_open_32 ?_
        exact J33 _ (Or.inr ⟨rfl, by omega⟩)
      · refine v_lload_n C dX7_open_20 rfl ?_
        refine v_ldc2 C (v := 1152921504606846976) (List.mem_of_getElem? (i := 1) rfl) (by decide +kernel) dX7_open_21 ?_
        refine v_lcmp_ge C (⟨by omega, by omega⟩) (⟨by omega, by omega⟩) (tgt := 32) dX7_open_24 dX7_open_25 (by decide) (fun c_24 => ?_) (fun c_24 => ?_)
        · refine v_iconst C dX7_open_32 ?_
          exact J33 _ (Or.inr ⟨rfl, by omega⟩)
        · refine v_iconst C dX7_open_28 ?_
          refine v_goto C (tgt := 33) dX7_open_29 (by decide) ?_
          exact J33 _ (Or.inl ⟨rfl, by omega⟩)
set_option maxRecDepth 100000 in
set_option maxHeartbeats 8000000 in
theorem c_X7_change {G : GG} {l : Launch} {r : Nat} {ad : Nat → Nat} {w : Wd} {c0 nw op sm ti sp nm nc sz ts av fi wr rm rc : Int} {A1 A3 A4 A9 A10 A11 A13 A14 A15 A16 A18 A20 A25 A26 A27 A28 A30 A31 : Int → Int} {i9 e9 v9 : Int} (hR : RefAt G r ad w c0 nw op sm ti sp nm nc sz ts av fi wr rm rc A1 A3 A4 A9 A10 A11 A13 A14 A15 A16 A18 A20 A25 A26 A27 A28 A30 A31) (h0 : 0 ≤ nw ∧ nw ≤ 200) (h1 : ∀ i, 0 ≤ i → i < nw → 1 ≤ A1 i ∧ A1 i ≤ 64) (h4 : ∀ i, 0 ≤ i → i < 12800 → 0 ≤ A4 i ∧ A4 i ≤ 8) (hop : op = 0 ∨ op = 1) (hi9 : R32 i9) (he9 : R32 e9) (hv9 : R32 v9) : MG G l yX7_change wsX7_change 2 80 0 0 [.ref r, .int (iI i9), .int (iI e9), .int (iI v9)] w (pI (fun (x : Int) (w' : Wd) => Fr mT w w' ∧ ((RefAt G r ad w' 1 nw op sm ti sp nm nc sz ts av fi wr rm rc A1 A3 A4 A9 A10 A11 A13 A14 A15 A16 A18 A20 A25 A26 A27 A28 A30 A31 ∧ x = 0 ∧ ¬ (0 ≤ i9 ∧ i9 < nw ∧ 0 ≤ e9 ∧ e9 < A1 i9)) ∨ (RefAt G r ad w' 2 nw op sm ti sp nm nc sz ts av fi wr rm rc A1 A3 A4 A9 A10 A11 A13 A14 A15 A16 A18 A20 A25 A26 A27 A28 A30 A31 ∧ x = 0 ∧ (0 ≤ i9 ∧ i9 < nw ∧ 0 ≤ e9 ∧ e9 < A1 i9) ∧ ¬ (0 ≤ v9 ∧ v9 ≤ 8)) ∨ (RefAt G r ad w' 3 nw op sm ti sp nm nc sz ts av fi wr rm rc A1 A3 A4 A9 A10 A11 A13 A14 A15 A16 A18 A20 A25 A26 A27 A28 A30 A31 ∧ x = 0 ∧ (0 ≤ i9 ∧ i9 < nw ∧ 0 ≤ e9 ∧ e9 < A1 i9) ∧ (0 ≤ v9 ∧ v9 ≤ 8) ∧ op = 0) ∨ (RefAt G r ad w' 0 nw op sm ti sp nm nc sz ts av fi wr rm rc A1 A3 (upI A4 (64 * i9 + e9) v9) A9 A10 A11 A13 A14 A15 A16 A18 A20 A25 A26 A27 A28 A30 A31 ∧ BP x (¬ A4 (64 * i9 + e9) = v9) ∧ (0 ≤ i9 ∧ i9 < nw ∧ 0 ≤ e9 ∧ e9 < A1 i9) ∧ (0 ≤ v9 ∧ v9 ≤ 8) ∧ op ≠ 0)))) := by
  refine MG.of (cc := cX7_change) (nL := 5) (ret := (some .boolean)) (ll := [some (.ref r), some (.int (iI i9)), some (.int (iI e9)), some (.int (iI v9)), none]) (by decide) rfl (Nat.le_of_ble_eq_true rfl) rfl ?_
  intro p e s m args below meth c C
  have hts := C.2.2.2.2.1
  have p66 : PutF G s m args 66 10 0 (.int) := putF_of C 10 0 tyX7 tyX7_ok nmX7 (T := TX7) (N := 33) (Cn := RX7) (ref := "TraceBookModel") rfl (by decide) (fun _ h => List.mem_cons_of_mem _ (List.mem_append_right _ (h))) (List.mem_of_getElem? (i := 3) rfl) (fun _ h => h) rfl (by decide +kernel)
  have g66 : GetF G s m args 66 10 0 := getF_of C 10 0 (T := TX7) (N := 33) (Cn := RX7) (ref := "TraceBookModel") rfl (by decide) (fun _ h => List.mem_cons_of_mem _ (List.mem_append_right _ (h))) (List.mem_of_getElem? (i := 3) rfl) (fun _ h => h)
  have g16 : GetF G s m args 16 10 4 := getF_of C 10 4 (T := TX7) (N := 33) (Cn := RX7) (ref := "TraceBookModel") rfl (by decide) (fun _ h => List.mem_cons_of_mem _ (List.mem_append_right _ (h))) (List.mem_of_getElem? (i := 4) rfl) (fun _ h => h)
  have g7 : GetF G s m args 7 10 1 := getF_of C 10 1 (T := TX7) (N := 33) (Cn := RX7) (ref := "TraceBookModel") rfl (by decide) (fun _ h => List.mem_cons_of_mem _ (List.mem_append_right _ (h))) (List.mem_of_getElem? (i := 1) rfl) (fun _ h => h)
  have g138 : GetF G s m args 138 10 5 := getF_of C 10 5 (T := TX7) (N := 33) (Cn := RX7) (ref := "TraceBookModel") rfl (by decide) (fun _ h => List.mem_cons_of_mem _ (List.mem_append_right _ (h))) (List.mem_of_getElem? (i := 2) rfl) (fun _ h => h)
  refine poI (P := fun PO => V G p l e _ s m args below meth c (MQW G below args s _ _ (pI PO)) w 0 0 0 _ []) (fun PO hPO => ?_)
  obtain ⟨w0, hw0⟩ : ∃ z, z = w := ⟨_, rfl⟩
  rw [← hw0] at hPO
  have hF : Fr mT w0 w := by rw [hw0]; exact Fr.rf
  refine v_aload_n C dX7_change_0 rfl ?_
  have J53 : ∀ q2 : Int, (q2 = 1 ∧ ¬ (0 ≤ i9 ∧ i9 < nw ∧ 0 ≤ e9 ∧ e9 < A1 i9)) ∨ (q2 = 2 ∧ (0 ≤ i9 ∧ i9 < nw ∧ 0 ≤ e9 ∧ e9 < A1 i9) ∧ ¬ (0 ≤ v9 ∧ v9 ≤ 8)) ∨ (q2 = 3 ∧ (0 ≤ i9 ∧ i9 < nw ∧ 0 ≤ e9 ∧ e9 < A1 i9) ∧ (0 ≤ v9 ∧ v9 ≤ 8) ∧ op = 0) ∨ (q2 = 0 ∧ (0 ≤ i9 ∧ i9 < nw ∧ 0 ≤ e9 ∧ e9 < A1 i9) ∧ (0 ≤ v9 ∧ v9 ≤ 8) ∧ op ≠ 0) → V G p l e { frames := 2, cells := 0, slots := 0, locals := 80 } s m args below meth c (MQW G below args s 0 0 (pI PO)) w 0 0 53 [some (.ref r), some (.int (iI i9)), some (.int (iI e9)), some (.int (iI v9)), none] [.int (iI q2), .ref r] := by
    intro q2 h53
    refine m_put_0 C p66 hR dX7_change_53 (fun w hR hF9 => ?_)
    have hF := hF.tr hF9
    refine v_aload_n C dX7_change_56 rfl ?_
    refine v_getf C g66 hR.1 rfl dX7_change_57 ?_
    refine v_if_le C (⟨by omega, by omega⟩) (tgt := 65) dX7_change_60 (by decide) (fun c_60 => ?_) (fun c_60 => ?_)
    · have hq2 : q2 = 0 := by omega
      have hok : (0 ≤ i9 ∧ i9 < nw ∧ 0 ≤ e9 ∧ e9 < A1 i9) ∧ 0 ≤ v9 ∧ v9 ≤ 8 ∧ op ≠ 0 := by omega
      have hA1 := h1 i9 hok.1.1 hok.1.2.1
      refine v_aload_n C dX7_change_65 rfl ?_
      have J85 : ∀ x9 : Int, BP x9 (¬ A4 (64 * i9 + e9) = v9) → V G p l e { frames := 2, cells := 0, slots := 0, locals := 80 } s m args below meth c (MQW G below args s 0 0 (pI PO)) w 0 0 85 [some (.ref r), some (.int (iI i9)), some (.int (iI e9)), some (.int (iI v9)), none] [.int (iI x9)] := by
        intro x9 h85
        refine v_istore C dX7_change_85 sl_5_4 (by decide) rfl ?_
        refine v_aload_n C dX7_change_87 rfl ?_
        refine v_getf C g16 hR.1 rfl dX7_change_88 ?_
        refine v_bipush C dX7_change_91 rfl ?_
        refine v_iload_n C dX7_change_93 rfl ?_
        refine v_imul C dX7_change_94 ?_
        refine v_iload_n C dX7_change_95 rfl ?_
        refine v_iadd C dX7_change_96 ?_
        refine v_iload_n C dX7_change_97 rfl ?_
        refine m_st_4 C hR (⟨by omega, by omega⟩) (by omega) (by omega) dX7_change_98 (fun w hR hF9 => ?_)
        have hF := hF.tr hF9
        refine v_iload C dX7_change_99 rfl ?_
        exact v_zret C rfl (h85.r) dX7_change_101 (Nat.le_refl _) (Nat.le_refl _) (hPO _ _ ⟨hF, Or.inr (Or.inr (Or.inr ⟨hq2 ▸ hR, h85, hok.1, ⟨hok.2.1, hok.2.2.1⟩, hok.2.2.2⟩))⟩)
      refine v_getf C g16 hR.1 rfl dX7_change_66 ?_
      refine v_bipush C dX7_change_69 rfl ?_
      refine v_iload_n C dX7_change_71 rfl ?_
      refine v_imul C dX7_change_72 ?_
      refine v_iload_n C dX7_change_73 rfl ?_
      refine v_iadd C dX7_change_74 ?_
      refine v_iald C hR.a4 (⟨by omega, by omega⟩) (by omega) (by omega) dX7_change_75 ?_
      refine v_iload_n C dX7_change_76 rfl ?_
      refine v_icmp_eq C (⟨by have := h4 (64 * i9 + e9) (by omega) (by omega); omega, by have := h4 (64 * i9 + e9) (by omega) (by omega); omega⟩) (⟨by omega, by omega⟩) (tgt := 84) dX7_change_77 (by decide) (fun c_77 => ?_) (fun c_77 => ?_)
      · refine v_iconst C dX7_change_84 ?_
        exact J85 _ (Or.inr ⟨rfl, by omega⟩)
      · refine v_iconst C dX7_change_80 ?_
        refine v_goto C (tgt := 85) dX7_change_81 (by decide) ?_
        exact J85 _ (Or.inl ⟨rfl, by omega⟩)
    · refine v_iconst C dX7_change_63 ?_
      exact v_zret C rfl (by omega) dX7_change_64 (Nat.le_refl _) (Nat.le_refl _) (hPO _ _ ⟨hF, by
          rcases h53 with ⟨rfl, h9⟩ | ⟨rfl, h9⟩ | ⟨rfl, h9⟩ | ⟨rfl, h9⟩
          · exact Or.inl ⟨hR, rfl, h9⟩
          · exact Or.inr (Or.inl ⟨hR, rfl, h9⟩)
          · exact Or.inr (Or.inr (Or.inl ⟨hR, rfl, h9⟩))
          · omega⟩)
  refine v_aload_n C dX7_change_1 rfl ?_
  refine v_iload_n C dX7_change_2 rfl ?_
  refine v_callVi C (q := (RX7, TX7, 33)) (As := [_]) (rest := [_]) (c_X7_none hR h0 hi9) (cwV 1 hts gX7_change_X7_none rfl rfl rfl (by decide +kernel) ⟨Nat.le_of_ble_eq_true rfl, Nat.le_of_ble_eq_true rfl⟩) hR.1 rfl rfl rfl (Nat.le_of_ble_eq_true rfl) dX7_change_3 (Nat.le_of_ble_eq_true rfl) (Nat.le_of_ble_eq_true rfl) (fun x_3 w hp => ?_)
  obtain ⟨rfl, h3⟩ := hp
  refine v_wide (k' := 0) (z' := 0) (Nat.le_refl _) (Nat.le_refl _) ?_
  refine v_if_ne C (h3.r32) (tgt := 23) dX7_change_6 (by decide) (fun c_6 => ?_) (fun c_6 => ?_)
  · refine v_iconst C dX7_change_23 ?_
    refine v_goto C (tgt := 53) dX7_change_24 (by decide) ?_
    first
      | (have h9 := h3.nz c_6; exact J53 _ (Or.inl ⟨rfl, by omega⟩))
      | exact J53 _ (Or.inl ⟨rfl, by omega⟩)
  · have h9 := h3.z c_6
    refine v_iload_n C dX7_change_9 rfl ?_
    refine v_if_lt C (⟨by omega, by omega⟩) (tgt := 23) dX7_change_10 (by decide) (fun c_10 => ?_) (fun c_10 => ?_)
    · refine v_iconst C dX7_change_23 ?_
      refine v_goto C (tgt := 53) dX7_change_24 (by decide) ?_
      first
        | (have h9 := h3.nz c_6; exact J53 _ (Or.inl ⟨rfl, by omega⟩))
        | exact J53 _ (Or.inl ⟨rfl, by omega⟩)
    · refine v_iload_n C dX7_change_13 rfl ?_
      refine v_aload_n C dX7_change_14 rfl ?_
      refine v_getf C g7 hR.1 rfl dX7_change_15 ?_
      refine v_iload_n C dX7_change_18 rfl ?_
      refine v_iald C hR.a1 (⟨by omega, by omega⟩) (by omega) (by omega) dX7_change_19 ?_
      refine v_icmp_lt C (⟨by omega, by omega⟩) (⟨by have := h1 i9 (by omega) (by omega); omega, by have := h1 i9 (by omega) (by omega); omega⟩) (tgt := 27) dX7_change_20 (by decide) (fun c_20 => ?_) (fun c_20 => ?_)
      · refine v_iload_n C dX7_change_27 rfl ?_
        refine v_if_lt C (⟨by omega, by omega⟩) (tgt := 37) dX7_change_28 (by decide) (fun c_28 => ?_) (fun c_28 => ?_)
        · refine v_iconst C dX7_change_37 ?_
          refine v_goto C (tgt := 53) dX7_change_38 (by decide) ?_
          have h9 := h3.z c_6
          exact J53 _ (Or.inr (Or.inl ⟨rfl, by omega, by omega⟩))
        · refine v_iload_n C dX7_change_31 rfl ?_
          refine v_bipush C dX7_change_32 rfl ?_
          refine v_icmp_le C (⟨by omega, by omega⟩) (⟨by omega, by omega⟩) (tgt := 41) dX7_change_34 (by decide) (fun c_34 => ?_) (fun c_34 => ?_)
          · refine v_aload_n C dX7_change_41 rfl ?_
            refine v_getf C g138 hR.1 rfl dX7_change_42 ?_
            refine v_if_ne C (⟨by omega, by omega⟩) (tgt := 52) dX7_change_45 (by decide) (fun c_45 => ?_) (fun c_45 => ?_)
            · refine v_iconst C dX7_change_52 ?_
              have h9 := h3.z c_6
              exact J53 _ (Or.inr (Or.inr (Or.inr ⟨rfl, by omega, by omega, by omega⟩)))
            · refine v_iconst C dX7_change_48 ?_
              refine v_goto C (tgt := 53) dX7_change_49 (by decide) ?_
              have h9 := h3.z c_6
              exact J53 _ (Or.inr (Or.inr (Or.inl ⟨rfl, by omega, by omega, by omega⟩)))
          · refine v_iconst C dX7_change_37 ?_
            refine v_goto C (tgt := 53) dX7_change_38 (by decide) ?_
            have h9 := h3.z c_6
            exact J53 _ (Or.inr (Or.inl ⟨rfl, by omega, by omega⟩))
      · refine v_iconst C dX7_change_23 ?_
        refine v_goto C (tgt := 53) dX7_change_24 (by decide) ?_
        first
          | (have h9 := h3.nz c_6; exact J53 _ (Or.inl ⟨rfl, by omega⟩))
          | exact J53 _ (Or.inl ⟨rfl, by omega⟩)
set_option maxRecDepth 100000 in
set_option maxHeartbeats 8000000 in
theorem c_X7_close {G : GG} {l : Launch} {r : Nat} {ad : Nat → Nat} {w : Wd} {c0 nw op sm ti sp nm nc sz ts av fi wr rm rc : Int} {A1 A3 A4 A9 A10 A11 A13 A14 A15 A16 A18 A20 A25 A26 A27 A28 A30 A31 : Int → Int}  (hR : RefAt G r ad w c0 nw op sm ti sp nm nc sz ts av fi wr rm rc A1 A3 A4 A9 A10 A11 A13 A14 A15 A16 A18 A20 A25 A26 A27 A28 A30 A31) (h0 : 0 ≤ nw ∧ nw ≤ 200) (h4 : ∀ i, 0 ≤ i → i < 12800 → 0 ≤ A4 i ∧ A4 i ≤ 8) (h3 : ∀ i, 0 ≤ i → i < 12800 → 0 ≤ A3 i ∧ A3 i ≤ 8) (hm : 0 ≤ nm ∧ nm ≤ 15000) (hti : 0 ≤ ti ∧ ti < 1152921504606846976) (hsp : 0 ≤ sp ∧ sp < 1152921504606846976) (hl9 : 0 ≤ (if nm = 0 then 0 else A9 (nm - 1)) ∧ (if nm = 0 then 0 else A9 (nm - 1)) ≤ ti) (hl10 : -1 ≤ (if nm = 0 then -1 else A10 (nm - 1)) ∧ (if nm = 0 then -1 else A10 (nm - 1)) < 1152921504606846976 ∧ (ti = (if nm = 0 then 0 else A9 (nm - 1)) → (if nm = 0 then -1 else A10 (nm - 1)) < sp)) (hnc : 0 ≤ nc ∧ nc + (drF A4 A3 (64 * nw).toNat 0).length ≤ 30001) (hsz : 0 ≤ sz ∧ sz + (encM ti sp (if nm = 0 then 0 else A9 (nm - 1)) (if nm = 0 then -1 else A10 (nm - 1)) A4 (drF A4 A3 (64 * nw).toNat 0)).length ≤ 60000) (hop : op = 0 ∨ op = 1) (hsm : sm = 0 ∨ sm = 1) : MG G l yX7_close wsX7_close 4 160 0 0 [.ref r] w (pI (fun (x : Int) (w' : Wd) => Fr mT w w' ∧ ((op = 0 ∧ x = -1 ∧ RefAt G r ad w' 0 nw op sm ti sp nm nc sz ts av fi wr rm rc A1 A3 A4 A9 A10 A11 A13 A14 A15 A16 A18 A20 A25 A26 A27 A28 A30 A31) ∨ (op = 1 ∧ x = (drF A4 A3 (64 * nw).toNat 0).length ∧ ∃ (nm2 nc2 sz2 : Int) (B3 B9 B10 B11 B13 B14 B15 B16 B18 : Int → Int), RefAt G r ad w' 0 nw 0 sm ti sp nm2 nc2 sz2 ts av fi wr rm rc A1 B3 A4 B9 B10 B11 B13 B14 B15 B16 B18 A20 A25 A26 A27 A28 A30 A31 ∧ FinR ti sp nw nm nc sz A3 A4 A9 A10 A11 A13 A14 A15 A16 A18 nm2 nc2 sz2 B3 B9 B10 B11 B13 B14 B15 B16 B18)))) := by
  refine MG.of (cc := cX7_close) (nL := 2) (ret := (some .int)) (ll := [some (.ref r), none]) (by decide) rfl (Nat.le_of_ble_eq_true rfl) rfl ?_
  intro p e s m args below meth c C
  have hts := C.2.2.2.2.1
  have p66 : PutF G s m args 66 10 0 (.int) := putF_of C 10 0 tyX7 tyX7_ok nmX7 (T := TX7) (N := 33) (Cn := RX7) (ref := "TraceBookModel") rfl (by decide) (fun _ h => List.mem_cons_of_mem _ (List.mem_append_right _ (h))) (List.mem_of_getElem? (i := 1) rfl) (fun _ h => h) rfl (by decide +kernel)
  have g138 : GetF G s m args 138 10 5 := getF_of C 10 5 (T := TX7) (N := 33) (Cn := RX7) (ref := "TraceBookModel") rfl (by decide) (fun _ h => List.mem_cons_of_mem _ (List.mem_append_right _ (h))) (List.mem_of_getElem? (i := 2) rfl) (fun _ h => h)
  have g66 : GetF G s m args 66 10 0 := getF_of C 10 0 (T := TX7) (N := 33) (Cn := RX7) (ref := "TraceBookModel") rfl (by decide) (fun _ h => List.mem_cons_of_mem _ (List.mem_append_right _ (h))) (List.mem_of_getElem? (i := 1) rfl) (fun _ h => h)
  have p138 : PutF G s m args 138 10 5 (.boolean) := putF_of C 10 5 tyX7 tyX7_ok nmX7 (T := TX7) (N := 33) (Cn := RX7) (ref := "TraceBookModel") rfl (by decide) (fun _ h => List.mem_cons_of_mem _ (List.mem_append_right _ (h))) (List.mem_of_getElem? (i := 2) rfl) (fun _ h => h) rfl (by decide +kernel)
  refine poI (P := fun PO => V G p l e _ s m args below meth c (MQW G below args s _ _ (pI PO)) w 0 0 0 _ []) (fun PO hPO => ?_)
  obtain ⟨w0, hw0⟩ : ∃ z, z = w := ⟨_, rfl⟩
  rw [← hw0] at hPO
  have hF : Fr mT w0 w := by rw [hw0]; exact Fr.rf
  refine v_aload_n C dX7_close_0 rfl ?_
  refine v_iconst C dX7_close_1 ?_
  refine m_put_0 C p66 hR dX7_close_2 (fun w hR hF9 => ?_)
  have hF := hF.tr hF9
  refine v_aload_n C dX7_close_5 rfl ?_
  refine v_getf C g138 hR.1 rfl dX7_close_6 ?_
  refine v_if_ne C (⟨by omega, by omega⟩) (tgt := 14) dX7_close_9 (by decide) (fun c_9 => ?_) (fun c_9 => ?_)
  · refine v_aload_n C dX7_close_14 rfl ?_
    refine v_callVi C (q := (RX7, TX7, 33)) (As := []) (rest := []) (c_X7_finish hR h0 h4 h3 hm hti hsp hl9 hl10 hnc hsz) (cwV 0 hts gX7_close_X7_finish rfl rfl rfl (by decide +kernel) ⟨Nat.le_of_ble_eq_true rfl, Nat.le_of_ble_eq_true rfl⟩) hR.1 rfl rfl rfl (Nat.le_of_ble_eq_true rfl) dX7_close_15 (Nat.le_of_ble_eq_true rfl) (Nat.le_of_ble_eq_true rfl) (fun x_15 w hp => ?_)
    obtain ⟨hF9, hp⟩ := hp
    have hF := hF.tr hF9
    obtain ⟨nm2, nc2, sz2, B3, B9, B10, B11, B13, B14, B15, B16, B18, hR, hfr, e15⟩ := finR_of hp
    refine v_wide (k' := 0) (z' := 0) (Nat.le_refl _) (Nat.le_refl _) ?_
    refine v_istore_n C dX7_close_18 sl_2_1 (by decide) rfl ?_
    refine v_aload_n C dX7_close_19 rfl ?_
    refine v_iload_n C dX7_close_20 rfl ?_
    refine v_if_ge C (⟨by have := drF_len (f := A4) (g := A3) (n := (64 * nw).toNat) (p := 0); omega, by have := drF_len (f := A4) (g := A3) (n := (64 * nw).toNat) (p := 0); omega⟩) (tgt := 28) dX7_close_21 (by decide) (fun c_21 => ?_) (fun c_21 => ?_)
    · refine v_iconst C dX7_close_28 ?_
      refine m_put_0 C p66 hR dX7_close_29 (fun w hR hF9 => ?_)
      have hF := hF.tr hF9
      refine v_aload_n C dX7_close_32 rfl ?_
      refine v_getf C g66 hR.1 rfl dX7_close_33 ?_
      refine v_if_le C (⟨by omega, by omega⟩) (tgt := 41) dX7_close_36 (by decide) (fun c_36 => ?_) (fun c_36 => ?_)
      · refine v_aload_n C dX7_close_41 rfl ?_
        refine v_iconst C dX7_close_42 ?_
        refine m_put_5 C p138 hR (Or.inl rfl) dX7_close_43 (fun w hR hF9 => ?_)
        have hF := hF.tr hF9
        refine v_iload_n C dX7_close_46 rfl ?_
        exact v_iret C rfl dX7_close_47 (Nat.le_refl _) (Nat.le_refl _) (hPO _ _ ⟨hF, Or.inr ⟨by omega, e15, _, _, _, _, _, _, _, _, _, _, _, _, hR, hfr⟩⟩)
      · exfalso; omega
    · exfalso; omega
  · refine v_iconst C dX7_close_12 ?_
    exact v_iret C rfl dX7_close_13 (Nat.le_refl _) (Nat.le_refl _) (hPO _ _ ⟨hF, Or.inl ⟨c_9, rfl, hR⟩⟩)
set_option maxRecDepth 100000 in
set_option maxHeartbeats 8000000 in
theorem c_X7_moment {G : GG} {l : Launch} {r : Nat} {ad : Nat → Nat} {w : Wd} {c0 nw op sm ti sp nm nc sz ts av fi wr rm rc : Int} {A1 A3 A4 A9 A10 A11 A13 A14 A15 A16 A18 A20 A25 A26 A27 A28 A30 A31 : Int → Int} {i9 e9 : Int} (hR : RefAt G r ad w c0 nw op sm ti sp nm nc sz ts av fi wr rm rc A1 A3 A4 A9 A10 A11 A13 A14 A15 A16 A18 A20 A25 A26 A27 A28 A30 A31) (hm : 0 ≤ nm ∧ nm ≤ 15000) (hnc1 : 0 ≤ nc ∧ nc ≤ 30001) (h11 : ∀ i, 0 ≤ i → i < nm → R32 (A11 i)) (h13 : ∀ k, 0 ≤ k → k < nc → R32 (A13 k)) (hi9 : R32 i9) (he9 : R32 e9) : MG G l yX7_moment wsX7_moment 2 80 0 0 [.ref r, .int (iI i9), .int (iI e9)] w (pL (fun (x : Int) (w' : Wd) => Fr mT w w' ∧ ((RefAt G r ad w' 1 nw op sm ti sp nm nc sz ts av fi wr rm rc A1 A3 A4 A9 A10 A11 A13 A14 A15 A16 A18 A20 A25 A26 A27 A28 A30 A31 ∧ ¬ (0 ≤ i9 ∧ i9 < nm)) ∨ (RefAt G r ad w' 2 nw op sm ti sp nm nc sz ts av fi wr rm rc A1 A3 A4 A9 A10 A11 A13 A14 A15 A16 A18 A20 A25 A26 A27 A28 A30 A31 ∧ (0 ≤ i9 ∧ i9 < nm) ∧ ¬ (0 ≤ e9 ∧ e9 ≤ 3)) ∨ (RefAt G r ad w' 0 nw op sm ti sp nm nc sz ts av fi wr rm rc A1 A3 A4 A9 A10 A11 A13 A14 A15 A16 A18 A20 A25 A26 A27 A28 A30 A31 ∧ (0 ≤ i9 ∧ i9 < nm) ∧ ((e9 = 0 ∧ x = A9 i9) ∨ (e9 = 1 ∧ x = A10 i9) ∨ (e9 = 2 ∧ x = cnt A13 i9 nc.toNat) ∨ (e9 = 3 ∧ x = A11 i9)))))) := by
  refine MG.of (cc := cX7_moment) (nL := 3) (ret := (some .long)) (ll := [some (.ref r), some (.int (iI i9)), some (.int (iI e9))]) (by decide) rfl (Nat.le_of_ble_eq_true rfl) rfl ?_
  intro p e s m args below meth c C
  have hts := C.2.2.2.2.1
  have p66 : PutF G s m args 66 10 0 (.int) := putF_of C 10 0 tyX7 tyX7_ok nmX7 (T := TX7) (N := 33) (Cn := RX7) (ref := "TraceBookModel") rfl (by decide) (fun _ h => List.mem_cons_of_mem _ (List.mem_append_right _ (h))) (List.mem_of_getElem? (i := 2) rfl) (fun _ h => h) rfl (by decide +kernel)
  have g66 : GetF G s m args 66 10 0 := getF_of C 10 0 (T := TX7) (N := 33) (Cn := RX7) (ref := "TraceBookModel") rfl (by decide) (fun _ h => List.mem_cons_of_mem _ (List.mem_append_right _ (h))) (List.mem_of_getElem? (i := 2) rfl) (fun _ h => h)
  have g26 : GetF G s m args 26 10 11 := getF_of C 10 11 (T := TX7) (N := 33) (Cn := RX7) (ref := "TraceBookModel") rfl (by decide) (fun _ h => List.mem_cons_of_mem _ (List.mem_append_right _ (h))) (List.mem_of_getElem? (i := 5) rfl) (fun _ h => h)
  have g23 : GetF G s m args 23 10 10 := getF_of C 10 10 (T := TX7) (N := 33) (Cn := RX7) (ref := "TraceBookModel") rfl (by decide) (fun _ h => List.mem_cons_of_mem _ (List.mem_append_right _ (h))) (List.mem_of_getElem? (i := 4) rfl) (fun _ h => h)
  have g19 : GetF G s m args 19 10 9 := getF_of C 10 9 (T := TX7) (N := 33) (Cn := RX7) (ref := "TraceBookModel") rfl (by decide) (fun _ h => List.mem_cons_of_mem _ (List.mem_append_right _ (h))) (List.mem_of_getElem? (i := 3) rfl) (fun _ h => h)
  have g88 : GetF G s m args 88 10 12 := getF_of C 10 12 (T := TX7) (N := 33) (Cn := RX7) (ref := "TraceBookModel") rfl (by decide) (fun _ h => List.mem_cons_of_mem _ (List.mem_append_right _ (h))) (List.mem_of_getElem? (i := 1) rfl) (fun _ h => h)
  refine poI (P := fun PO => V G p l e _ s m args below meth c (MQW G below args s _ _ (pL PO)) w 0 0 0 _ []) (fun PO hPO => ?_)
  obtain ⟨w0, hw0⟩ : ∃ z, z = w := ⟨_, rfl⟩
  rw [← hw0] at hPO
  have hF : Fr mT w0 w := by rw [hw0]; exact Fr.rf
  refine v_aload_n C dX7_moment_0 rfl ?_
  have J31 : ∀ q2 : Int, (q2 = 1 ∧ ¬ (0 ≤ i9 ∧ i9 < nm)) ∨ (q2 = 2 ∧ (0 ≤ i9 ∧ i9 < nm) ∧ ¬ (0 ≤ e9 ∧ e9 ≤ 3)) ∨ (q2 = 0 ∧ (0 ≤ i9 ∧ i9 < nm) ∧ (0 ≤ e9 ∧ e9 ≤ 3)) → V G p l e { frames := 2, cells := 0, slots := 0, locals := 80 } s m args below meth c (MQW G below args s 0 0 (pL PO)) w 0 0 31 [some (.ref r), some (.int (iI i9)), some (.int (iI e9))] [.int (iI q2), .ref r] := by
    intro q2 h31
    refine m_put_0 C p66 hR dX7_moment_31 (fun w hR hF9 => ?_)
    have hF := hF.tr hF9
    refine v_aload_n C dX7_moment_34 rfl ?_
    refine v_getf C g66 hR.1 rfl dX7_moment_35 ?_
    refine v_if_le C (⟨by omega, by omega⟩) (tgt := 43) dX7_moment_38 (by decide) (fun c_38 => ?_) (fun c_38 => ?_)
    · have hq2 : q2 = 0 := by omega
      refine v_iload_n C dX7_moment_43 rfl ?_
      refine v_if_ne C (⟨by omega, by omega⟩) (tgt := 56) dX7_moment_44 (by decide) (fun c_44 => ?_) (fun c_44 => ?_)
      · refine v_iload_n C dX7_moment_56 rfl ?_
        refine v_iconst C dX7_moment_57 ?_
        refine v_icmp_ne C (⟨by omega, by omega⟩) (⟨by omega, by omega⟩) (tgt := 70) dX7_moment_58 (by decide) (fun c_58 => ?_) (fun c_58 => ?_)
        · refine v_iload_n C dX7_moment_70 rfl ?_
          refine v_iconst C dX7_moment_71 ?_
          refine v_icmp_ne C (⟨by omega, by omega⟩) (⟨by omega, by omega⟩) (tgt := 84) dX7_moment_72 (by decide) (fun c_72 => ?_) (fun c_72 => ?_)
          · refine v_aload_n C dX7_moment_84 rfl ?_
            refine v_getf C g26 hR.1 rfl dX7_moment_85 ?_
            refine v_iload_n C dX7_moment_88 rfl ?_
            refine v_iald C hR.a11 (⟨by omega, by omega⟩) (by omega) (by omega) dX7_moment_89 ?_
            refine v_i2l C (h11 i9 (by omega) (by omega)) dX7_moment_90 ?_
            exact v_lret C rfl dX7_moment_91 (Nat.le_refl _) (Nat.le_refl _) (hPO _ _ ⟨hF, Or.inr (Or.inr ⟨hq2 ▸ hR, by omega, Or.inr (Or.inr (Or.inr ⟨by omega, rfl⟩))⟩)⟩)
          · refine v_aload_n C dX7_moment_75 rfl ?_
            refine v_iload_n C dX7_moment_76 rfl ?_
            refine v_callVi C (q := (RX7, TX7, 33)) (As := [_]) (rest := []) (c_X7_changesOf hR hnc1 hi9 h13) (cwV 1 hts gX7_moment_X7_changesOf rfl rfl rfl (by decide +kernel) ⟨Nat.le_of_ble_eq_true rfl, Nat.le_of_ble_eq_true rfl⟩) hR.1 rfl rfl rfl (Nat.le_of_ble_eq_true rfl) dX7_moment_77 (Nat.le_of_ble_eq_true rfl) (Nat.le_of_ble_eq_true rfl) (fun x_77 w hp => ?_)
            obtain ⟨rfl, e77⟩ := hp
            refine v_wide (k' := 0) (z' := 0) (Nat.le_refl _) (Nat.le_refl _) ?_
            refine v_i2l C (⟨by have := cnt_bd A13 i9 nc.toNat; omega, by have := cnt_bd A13 i9 nc.toNat; omega⟩) dX7_moment_80 ?_
            refine v_goto C (tgt := 91) dX7_moment_81 (by decide) ?_
            exact v_lret C rfl dX7_moment_91 (Nat.le_refl _) (Nat.le_refl _) (hPO _ _ ⟨hF, Or.inr (Or.inr ⟨hq2 ▸ hR, by omega, Or.inr (Or.inr (Or.inl ⟨by omega, e77⟩))⟩)⟩)
        · refine v_aload_n C dX7_moment_61 rfl ?_
          refine v_getf C g23 hR.1 rfl dX7_moment_62 ?_
          refine v_iload_n C dX7_moment_65 rfl ?_
          refine v_lald C hR.a10 (⟨by omega, by omega⟩) (by omega) (by omega) dX7_moment_66 ?_
          refine v_goto C (tgt := 91) dX7_moment_67 (by decide) ?_
          exact v_lret C rfl dX7_moment_91 (Nat.le_refl _) (Nat.le_refl _) (hPO _ _ ⟨hF, Or.inr (Or.inr ⟨hq2 ▸ hR, by omega, Or.inr (Or.inl ⟨by omega, rfl⟩)⟩)⟩)
      · refine v_aload_n C dX7_moment_47 rfl ?_
        refine v_getf C g19 hR.1 rfl dX7_moment_48 ?_
        refine v_iload_n C dX7_moment_51 rfl ?_
        refine v_lald C hR.a9 (⟨by omega, by omega⟩) (by omega) (by omega) dX7_moment_52 ?_
        refine v_goto C (tgt := 91) dX7_moment_53 (by decide) ?_
        exact v_lret C rfl dX7_moment_91 (Nat.le_refl _) (Nat.le_refl _) (hPO _ _ ⟨hF, Or.inr (Or.inr ⟨hq2 ▸ hR, by omega, Or.inl ⟨by omega, rfl⟩⟩)⟩)
    · refine v_lconst C (v := 0) dX7_moment_41 rfl ?_
      exact v_lret C rfl dX7_moment_42 (Nat.le_refl _) (Nat.le_refl _) (hPO _ _ ⟨hF, by
          rcases h31 with ⟨rfl, h9⟩ | ⟨rfl, h9⟩ | ⟨rfl, h9⟩
          · exact Or.inl ⟨hR, h9⟩
          · exact Or.inr (Or.inl ⟨hR, h9⟩)
          · omega⟩)
  refine v_iload_n C dX7_moment_1 rfl ?_
  refine v_if_lt C (⟨by omega, by omega⟩) (tgt := 13) dX7_moment_2 (by decide) (fun c_2 => ?_) (fun c_2 => ?_)
  · refine v_iconst C dX7_moment_13 ?_
    refine v_goto C (tgt := 31) dX7_moment_14 (by decide) ?_
    exact J31 _ (Or.inl ⟨rfl, by omega⟩)
  · refine v_iload_n C dX7_moment_5 rfl ?_
    refine v_aload_n C dX7_moment_6 rfl ?_
    refine v_getf C g88 hR.1 rfl dX7_moment_7 ?_
    refine v_icmp_lt C (⟨by omega, by omega⟩) (⟨by omega, by omega⟩) (tgt := 17) dX7_moment_10 (by decide) (fun c_10 => ?_) (fun c_10 => ?_)
    · refine v_iload_n C dX7_moment_17 rfl ?_
      refine v_if_lt C (⟨by omega, by omega⟩) (tgt := 26) dX7_moment_18 (by decide) (fun c_18 => ?_) (fun c_18 => ?_)
      · refine v_iconst C dX7_moment_26 ?_
        refine v_goto C (tgt := 31) dX7_moment_27 (by decide) ?_
        exact J31 _ (Or.inr (Or.inl ⟨rfl, by omega, by omega⟩))
      · refine v_iload_n C dX7_moment_21 rfl ?_
        refine v_iconst C dX7_moment_22 ?_
        refine v_icmp_le C (⟨by omega, by omega⟩) (⟨by omega, by omega⟩) (tgt := 30) dX7_moment_23 (by decide) (fun c_23 => ?_) (fun c_23 => ?_)
        · refine v_iconst C dX7_moment_30 ?_
          exact J31 _ (Or.inr (Or.inr ⟨rfl, by omega, by omega⟩))
        · refine v_iconst C dX7_moment_26 ?_
          refine v_goto C (tgt := 31) dX7_moment_27 (by decide) ?_
          exact J31 _ (Or.inr (Or.inl ⟨rfl, by omega, by omega⟩))
    · refine v_iconst C dX7_moment_13 ?_
      refine v_goto C (tgt := 31) dX7_moment_14 (by decide) ?_
      exact J31 _ (Or.inl ⟨rfl, by omega⟩)
set_option maxRecDepth 100000 in
set_option maxHeartbeats 8000000 in
theorem c_X7_changed {G : GG} {l : Launch} {r : Nat} {ad : Nat → Nat} {w : Wd} {c0 nw op sm ti sp nm nc sz ts av fi wr rm rc : Int} {A1 A3 A4 A9 A10 A11 A13 A14 A15 A16 A18 A20 A25 A26 A27 A28 A30 A31 : Int → Int} {i9 e9 a9 k0 : Int} (hR : RefAt G r ad w c0 nw op sm ti sp nm nc sz ts av fi wr rm rc A1 A3 A4 A9 A10 A11 A13 A14 A15 A16 A18 A20 A25 A26 A27 A28 A30 A31) (hm : 0 ≤ nm ∧ nm ≤ 15000) (hnc1 : 0 ≤ nc ∧ nc ≤ 30001) (h13 : ∀ k, 0 ≤ k → k < nc → R32 (A13 k)) (h14 : ∀ k, 0 ≤ k → k < nc → 0 ≤ A14 k ∧ A14 k < 12800) (hk : 0 ≤ i9 → i9 < nm → 0 ≤ k0 ∧ k0 + cnt A13 i9 nc.toNat ≤ nc ∧ (∀ k, 0 ≤ k → k < k0 → ¬ A13 k = i9) ∧ (0 < cnt A13 i9 nc.toNat → A13 k0 = i9)) (hi9 : R32 i9) (he9 : R32 e9) (ha9 : R32 a9) : MG G l yX7_changed wsX7_changed 2 80 0 0 [.ref r, .int (iI i9), .int (iI e9), .int (iI a9)] w (pI (fun (x : Int) (w' : Wd) => Fr mT w w' ∧ ((RefAt G r ad w' 1 nw op sm ti sp nm nc sz ts av fi wr rm rc A1 A3 A4 A9 A10 A11 A13 A14 A15 A16 A18 A20 A25 A26 A27 A28 A30 A31 ∧ ¬ ((0 ≤ i9 ∧ i9 < nm) ∧ (0 ≤ e9 ∧ e9 < cnt A13 i9 nc.toNat))) ∨ (RefAt G r ad w' 2 nw op sm ti sp nm nc sz ts av fi wr rm rc A1 A3 A4 A9 A10 A11 A13 A14 A15 A16 A18 A20 A25 A26 A27 A28 A30 A31 ∧ (0 ≤ i9 ∧ i9 < nm) ∧ (0 ≤ e9 ∧ e9 < cnt A13 i9 nc.toNat) ∧ ¬ (0 ≤ a9 ∧ a9 ≤ 3)) ∨ (RefAt G r ad w' 0 nw op sm ti sp nm nc sz ts av fi wr rm rc A1 A3 A4 A9 A10 A11 A13 A14 A15 A16 A18 A20 A25 A26 A27 A28 A30 A31 ∧ (0 ≤ i9 ∧ i9 < nm) ∧ (0 ≤ e9 ∧ e9 < cnt A13 i9 nc.toNat) ∧ ((a9 = 0 ∧ x = A14 (k0 + e9) / 64) ∨ (a9 = 1 ∧ x = A14 (k0 + e9) % 64) ∨ (a9 = 2 ∧ x = A16 (k0 + e9)) ∨ (a9 = 3 ∧ x = A15 (k0 + e9))))))) := by
  refine MG.of (cc := cX7_changed) (nL := 5) (ret := (some .int)) (ll := [some (.ref r), some (.int (iI i9)), some (.int (iI e9)), some (.int (iI a9)), none]) (by decide) rfl (Nat.le_of_ble_eq_true rfl) rfl ?_
  intro p e s m args below meth c C
  have hts := C.2.2.2.2.1
  have p66 : PutF G s m args 66 10 0 (.int) := putF_of C 10 0 tyX7 tyX7_ok nmX7 (T := TX7) (N := 33) (Cn := RX7) (ref := "TraceBookModel") rfl (by decide) (fun _ h => List.mem_cons_of_mem _ (List.mem_append_right _ (h))) (List.mem_of_getElem? (i := 2) rfl) (fun _ h => h) rfl (by decide +kernel)
  have g66 : GetF G s m args 66 10 0 := getF_of C 10 0 (T := TX7) (N := 33) (Cn := RX7) (ref := "TraceBookModel") rfl (by decide) (fun _ h => List.mem_cons_of_mem _ (List.mem_append_right _ (h))) (List.mem_of_getElem? (i := 2) rfl) (fun _ h => h)
  have g29 : GetF G s m args 29 10 13 := getF_of C 10 13 (T := TX7) (N := 33) (Cn := RX7) (ref := "TraceBookModel") rfl (by decide) (fun _ h => List.mem_cons_of_mem _ (List.mem_append_right _ (h))) (List.mem_of_getElem? (i := 3) rfl) (fun _ h => h)
  have g35 : GetF G s m args 35 10 15 := getF_of C 10 15 (T := TX7) (N := 33) (Cn := RX7) (ref := "TraceBookModel") rfl (by decide) (fun _ h => List.mem_cons_of_mem _ (List.mem_append_right _ (h))) (List.mem_of_getElem? (i := 6) rfl) (fun _ h => h)
  have g38 : GetF G s m args 38 10 16 := getF_of C 10 16 (T := TX7) (N := 33) (Cn := RX7) (ref := "TraceBookModel") rfl (by decide) (fun _ h => List.mem_cons_of_mem _ (List.mem_append_right _ (h))) (List.mem_of_getElem? (i := 5) rfl) (fun _ h => h)
  have g32 : GetF G s m args 32 10 14 := getF_of C 10 14 (T := TX7) (N := 33) (Cn := RX7) (ref := "TraceBookModel") rfl (by decide) (fun _ h => List.mem_cons_of_mem _ (List.mem_append_right _ (h))) (List.mem_of_getElem? (i := 4) rfl) (fun _ h => h)
  have g88 : GetF G s m args 88 10 12 := getF_of C 10 12 (T := TX7) (N := 33) (Cn := RX7) (ref := "TraceBookModel") rfl (by decide) (fun _ h => List.mem_cons_of_mem _ (List.mem_append_right _ (h))) (List.mem_of_getElem? (i := 1) rfl) (fun _ h => h)
  refine poI (P := fun PO => V G p l e _ s m args below meth c (MQW G below args s _ _ (pI PO)) w 0 0 0 _ []) (fun PO hPO => ?_)
  obtain ⟨w0, hw0⟩ : ∃ z, z = w := ⟨_, rfl⟩
  rw [← hw0] at hPO
  have hF : Fr mT w0 w := by rw [hw0]; exact Fr.rf
  refine v_aload_n C dX7_changed_0 rfl ?_
  have J18 : ∀ q2 : Int, (q2 = 1 ∧ ¬ (0 ≤ i9 ∧ i9 < nm)) ∨ (q2 = 0 ∧ (0 ≤ i9 ∧ i9 < nm)) → V G p l e { frames := 2, cells := 0, slots := 0, locals := 80 } s m args below meth c (MQW G below args s 0 0 (pI PO)) w 0 0 18 [some (.ref r), some (.int (iI i9)), some (.int (iI e9)), some (.int (iI a9)), none] [.int (iI q2), .ref r] := by
    intro q2 h18
    refine m_put_0 C p66 hR dX7_changed_18 (fun w hR hF9 => ?_)
    have hF := hF.tr hF9
    have J63 : ∀ (w : Wd) (q4 : Int), RefAt G r ad w q4 nw op sm ti sp nm nc sz ts av fi wr rm rc A1 A3 A4 A9 A10 A11 A13 A14 A15 A16 A18 A20 A25 A26 A27 A28 A30 A31 → Fr mT w0 w → (q4 = 1 ∧ ¬ ((0 ≤ i9 ∧ i9 < nm) ∧ (0 ≤ e9 ∧ e9 < cnt A13 i9 nc.toNat))) ∨ (q4 = 2 ∧ (0 ≤ i9 ∧ i9 < nm) ∧ (0 ≤ e9 ∧ e9 < cnt A13 i9 nc.toNat) ∧ ¬ (0 ≤ a9 ∧ a9 ≤ 3)) ∨ (q4 = 0 ∧ (0 ≤ i9 ∧ i9 < nm) ∧ (0 ≤ e9 ∧ e9 < cnt A13 i9 nc.toNat) ∧ (0 ≤ a9 ∧ a9 ≤ 3)) → V G p l e { frames := 2, cells := 0, slots := 0, locals := 80 } s m args below meth c (MQW G below args s 0 0 (pI PO)) w 0 0 63 [some (.ref r), some (.int (iI i9)), some (.int (iI e9)), some (.int (iI a9)), none] [] := by
      intro w q4 hR hF h63
      refine v_aload_n C dX7_changed_63 rfl ?_
      refine v_getf C g66 hR.1 rfl dX7_changed_64 ?_
      refine v_if_le C (⟨by omega, by omega⟩) (tgt := 72) dX7_changed_67 (by decide) (fun c_67 => ?_) (fun c_67 => ?_)
      · have hq4 : q4 = 0 := by omega
        have hk9 := hk (by omega) (by omega)
        refine v_iconst C dX7_changed_72 ?_
        refine v_istore C dX7_changed_73 sl_5_4 (by decide) rfl ?_
        have L75 : ∀ (N : Nat) (j : Int), (0 ≤ j ∧ j ≤ k0) → (k0 - j).toNat < N → V G p l e { frames := 2, cells := 0, slots := 0, locals := 80 } s m args below meth c (MQW G below args s 0 0 (pI PO)) w 0 0 75 [some (.ref r), some (.int (iI i9)), some (.int (iI e9)), some (.int (iI a9)), some (.int (iI j))] [] := by
          intro N
          induction N with
          | zero => intro j hj hm; exact absurd hm (Nat.not_lt_zero _)
          | succ N ih =>
            intro j hj hm
            refine v_aload_n C dX7_changed_75 rfl ?_
            refine v_getf C g29 hR.1 rfl dX7_changed_76 ?_
            refine v_iload C dX7_changed_79 rfl ?_
            refine v_iald C hR.a13 (⟨by omega, by omega⟩) (by omega) (by omega) dX7_changed_81 ?_
            refine v_iload_n C dX7_changed_82 rfl ?_
            refine v_icmp_eq C (h13 _ (by omega) (by omega)) (hi9) (tgt := 92) dX7_changed_83 (by decide) (fun c_83 => ?_) (fun c_83 => ?_)
            · have hjk : j = k0 := by
                apply Classical.byContradiction
                intro q
                exact hk9.2.2.1 j (by omega) (by omega) c_83
              rw [hjk]
              refine v_iload C dX7_changed_92 rfl ?_
              refine v_iload_n C dX7_changed_94 rfl ?_
              refine v_iadd C dX7_changed_95 ?_
              refine v_istore C dX7_changed_96 sl_5_4 (by decide) rfl ?_
              have hb14 := h14 (k0 + e9) (by omega) (by omega)
              refine v_iload_n C dX7_changed_98 rfl ?_
              refine v_if_ne C (⟨by omega, by omega⟩) (tgt := 115) dX7_changed_99 (by decide) (fun c_99 => ?_) (fun c_99 => ?_)
              · refine v_iload_n C dX7_changed_115 rfl ?_
                refine v_iconst C dX7_changed_116 ?_
                refine v_icmp_ne C (⟨by omega, by omega⟩) (⟨by omega, by omega⟩) (tgt := 133) dX7_changed_117 (by decide) (fun c_117 => ?_) (fun c_117 => ?_)
                · refine v_iload_n C dX7_changed_133 rfl ?_
                  refine v_iconst C dX7_changed_134 ?_
                  refine v_icmp_ne C (⟨by omega, by omega⟩) (⟨by omega, by omega⟩) (tgt := 148) dX7_changed_135 (by decide) (fun c_135 => ?_) (fun c_135 => ?_)
                  · refine v_aload_n C dX7_changed_148 rfl ?_
                    refine v_getf C g35 hR.1 rfl dX7_changed_149 ?_
                    refine v_iload C dX7_changed_152 rfl ?_
                    refine v_iald C hR.a15 (⟨by omega, by omega⟩) (by omega) (by omega) dX7_changed_154 ?_
                    exact v_iret C rfl dX7_changed_155 (Nat.le_refl _) (Nat.le_refl _) (hPO _ _ ⟨hF, Or.inr (Or.inr ⟨hq4 ▸ hR, by omega, by omega, Or.inr (Or.inr (Or.inr ⟨by omega, rfl⟩))⟩)⟩)
                  · refine v_aload_n C dX7_changed_138 rfl ?_
                    refine v_getf C g38 hR.1 rfl dX7_changed_139 ?_
                    refine v_iload C dX7_changed_142 rfl ?_
                    refine v_iald C hR.a16 (⟨by omega, by omega⟩) (by omega) (by omega) dX7_changed_144 ?_
                    refine v_goto C (tgt := 155) dX7_changed_145 (by decide) ?_
                    exact v_iret C rfl dX7_changed_155 (Nat.le_refl _) (Nat.le_refl _) (hPO _ _ ⟨hF, Or.inr (Or.inr ⟨hq4 ▸ hR, by omega, by omega, Or.inr (Or.inr (Or.inl ⟨by omega, rfl⟩))⟩)⟩)
                · refine v_aload_n C dX7_changed_120 rfl ?_
                  refine v_getf C g32 hR.1 rfl dX7_changed_121 ?_
                  refine v_iload C dX7_changed_124 rfl ?_
                  refine v_iald C hR.a14 (⟨by omega, by omega⟩) (by omega) (by omega) dX7_changed_126 ?_
                  refine v_bipush C dX7_changed_127 rfl ?_
                  refine v_irem C (⟨by omega, by omega⟩) (by omega) (⟨by omega, by omega⟩) (by omega) dX7_changed_129 ?_
                  refine v_goto C (tgt := 155) dX7_changed_130 (by decide) ?_
                  exact v_iret C rfl dX7_changed_155 (Nat.le_refl _) (Nat.le_refl _) (hPO _ _ ⟨hF, Or.inr (Or.inr ⟨hq4 ▸ hR, by omega, by omega, Or.inr (Or.inl ⟨by omega, rfl⟩)⟩)⟩)
              · refine v_aload_n C dX7_changed_102 rfl ?_
                refine v_getf C g32 hR.1 rfl dX7_changed_103 ?_
                refine v_iload C dX7_changed_106 rfl ?_
                refine v_iald C hR.a14 (⟨by omega, by omega⟩) (by omega) (by omega) dX7_changed_108 ?_
                refine v_bipush C dX7_changed_109 rfl ?_
                refine v_idiv C (⟨by omega, by omega⟩) (by omega) (⟨by omega, by omega⟩) (by omega) dX7_changed_111 ?_
                refine v_goto C (tgt := 155) dX7_changed_112 (by decide) ?_
                exact v_iret C rfl dX7_changed_155 (Nat.le_refl _) (Nat.le_refl _) (hPO _ _ ⟨hF, Or.inr (Or.inr ⟨hq4 ▸ hR, by omega, by omega, Or.inl ⟨by omega, rfl⟩⟩)⟩)
            · refine v_iinc C dX7_changed_86 rfl sl_5_4 (by decide) rfl ?_
              refine v_goto C (tgt := 75) dX7_changed_89 (by decide) ?_
              exact ih (j + 1) ⟨by omega, by
                  have : ¬ j = k0 := fun q => c_83 (by rw [q]; exact hk9.2.2.2 (by omega))
                  omega⟩ (by
                  have : ¬ j = k0 := fun q => c_83 (by rw [q]; exact hk9.2.2.2 (by omega))
                  omega)
        exact L75 _ 0 ⟨by omega, by omega⟩ (Nat.lt_succ_self _)
      · refine v_iconst C dX7_changed_70 ?_
        exact v_iret C rfl dX7_changed_71 (Nat.le_refl _) (Nat.le_refl _) (hPO _ _ ⟨hF, by
            rcases h63 with ⟨rfl, h9⟩ | ⟨rfl, h9⟩ | ⟨rfl, h9⟩
            · exact Or.inl ⟨hR, h9⟩
            · exact Or.inr (Or.inl ⟨hR, h9⟩)
            · omega⟩)
    refine v_aload_n C dX7_changed_21 rfl ?_
    refine v_getf C g66 hR.1 rfl dX7_changed_22 ?_
    refine v_if_ne C (⟨by omega, by omega⟩) (tgt := 63) dX7_changed_25 (by decide) (fun c_25 => ?_) (fun c_25 => ?_)
    · exact J63 _ _ hR hF (by omega)
    · refine v_aload_n C dX7_changed_28 rfl ?_
      have J60 : ∀ q3 : Int, (q3 = 1 ∧ ¬ (0 ≤ e9 ∧ e9 < cnt A13 i9 nc.toNat)) ∨ (q3 = 2 ∧ (0 ≤ e9 ∧ e9 < cnt A13 i9 nc.toNat) ∧ ¬ (0 ≤ a9 ∧ a9 ≤ 3)) ∨ (q3 = 0 ∧ (0 ≤ e9 ∧ e9 < cnt A13 i9 nc.toNat) ∧ (0 ≤ a9 ∧ a9 ≤ 3)) → V G p l e { frames := 2, cells := 0, slots := 0, locals := 80 } s m args below meth c (MQW G below args s 0 0 (pI PO)) w 0 0 60 [some (.ref r), some (.int (iI i9)), some (.int (iI e9)), some (.int (iI a9)), none] [.int (iI q3), .ref r] := by
        intro q3 h60
        refine m_put_0 C p66 hR dX7_changed_60 (fun w hR hF9 => ?_)
        have hF := hF.tr hF9
        exact J63 _ _ hR hF (by omega)
      refine v_iload_n C dX7_changed_29 rfl ?_
      refine v_if_lt C (⟨by omega, by omega⟩) (tgt := 42) dX7_changed_30 (by decide) (fun c_30 => ?_) (fun c_30 => ?_)
      · refine v_iconst C dX7_changed_42 ?_
        refine v_goto C (tgt := 60) dX7_changed_43 (by decide) ?_
        exact J60 _ (Or.inl ⟨rfl, by omega⟩)
      · refine v_iload_n C dX7_changed_33 rfl ?_
        refine v_aload_n C dX7_changed_34 rfl ?_
        refine v_iload_n C dX7_changed_35 rfl ?_
        refine v_callVi C (q := (RX7, TX7, 33)) (As := [_]) (rest := [_, _]) (c_X7_changesOf hR hnc1 hi9 h13) (cwV 1 hts gX7_changed_X7_changesOf rfl rfl rfl (by decide +kernel) ⟨Nat.le_of_ble_eq_true rfl, Nat.le_of_ble_eq_true rfl⟩) hR.1 rfl rfl rfl (Nat.le_of_ble_eq_true rfl) dX7_changed_36 (Nat.le_of_ble_eq_true rfl) (Nat.le_of_ble_eq_true rfl) (fun x_36 w hp => ?_)
        obtain ⟨rfl, e36⟩ := hp
        refine v_wide (k' := 0) (z' := 0) (Nat.le_refl _) (Nat.le_refl _) ?_
        refine v_icmp_lt C (⟨by omega, by omega⟩) (⟨by have := cnt_bd A13 i9 nc.toNat; omega, by have := cnt_bd A13 i9 nc.toNat; omega⟩) (tgt := 46) dX7_changed_39 (by decide) (fun c_39 => ?_) (fun c_39 => ?_)
        · refine v_iload_n C dX7_changed_46 rfl ?_
          refine v_if_lt C (⟨by omega, by omega⟩) (tgt := 55) dX7_changed_47 (by decide) (fun c_47 => ?_) (fun c_47 => ?_)
          · refine v_iconst C dX7_changed_55 ?_
            refine v_goto C (tgt := 60) dX7_changed_56 (by decide) ?_
            exact J60 _ (Or.inr (Or.inl ⟨rfl, by omega, by omega⟩))
          · refine v_iload_n C dX7_changed_50 rfl ?_
            refine v_iconst C dX7_changed_51 ?_
            refine v_icmp_le C (⟨by omega, by omega⟩) (⟨by omega, by omega⟩) (tgt := 59) dX7_changed_52 (by decide) (fun c_52 => ?_) (fun c_52 => ?_)
            · refine v_iconst C dX7_changed_59 ?_
              exact J60 _ (Or.inr (Or.inr ⟨rfl, by omega, by omega⟩))
            · refine v_iconst C dX7_changed_55 ?_
              refine v_goto C (tgt := 60) dX7_changed_56 (by decide) ?_
              exact J60 _ (Or.inr (Or.inl ⟨rfl, by omega, by omega⟩))
        · refine v_iconst C dX7_changed_42 ?_
          refine v_goto C (tgt := 60) dX7_changed_43 (by decide) ?_
          exact J60 _ (Or.inl ⟨rfl, by omega⟩)
  refine v_iload_n C dX7_changed_1 rfl ?_
  refine v_if_lt C (⟨by omega, by omega⟩) (tgt := 13) dX7_changed_2 (by decide) (fun c_2 => ?_) (fun c_2 => ?_)
  · refine v_iconst C dX7_changed_13 ?_
    refine v_goto C (tgt := 18) dX7_changed_14 (by decide) ?_
    exact J18 _ (Or.inl ⟨rfl, by omega⟩)
  · refine v_iload_n C dX7_changed_5 rfl ?_
    refine v_aload_n C dX7_changed_6 rfl ?_
    refine v_getf C g88 hR.1 rfl dX7_changed_7 ?_
    refine v_icmp_lt C (⟨by omega, by omega⟩) (⟨by omega, by omega⟩) (tgt := 17) dX7_changed_10 (by decide) (fun c_10 => ?_) (fun c_10 => ?_)
    · refine v_iconst C dX7_changed_17 ?_
      exact J18 _ (Or.inr ⟨rfl, by omega⟩)
    · refine v_iconst C dX7_changed_13 ?_
      refine v_goto C (tgt := 18) dX7_changed_14 (by decide) ?_
      exact J18 _ (Or.inl ⟨rfl, by omega⟩)
set_option maxRecDepth 100000 in
set_option maxHeartbeats 8000000 in
theorem c_X7_at {G : GG} {l : Launch} {r : Nat} {ad : Nat → Nat} {w : Wd} {c0 nw op sm ti sp nm nc sz ts av fi wr rm rc : Int} {A1 A3 A4 A9 A10 A11 A13 A14 A15 A16 A18 A20 A25 A26 A27 A28 A30 A31 : Int → Int} {t9 s9 i9 e9 : Int} (hR : RefAt G r ad w c0 nw op sm ti sp nm nc sz ts av fi wr rm rc A1 A3 A4 A9 A10 A11 A13 A14 A15 A16 A18 A20 A25 A26 A27 A28 A30 A31) (h0 : 0 ≤ nw ∧ nw ≤ 200) (h1 : ∀ i, 0 ≤ i → i < nw → 1 ≤ A1 i ∧ A1 i ≤ 64) (hm : 0 ≤ nm ∧ nm ≤ 15000) (hnc1 : 0 ≤ nc ∧ nc ≤ 30001) (h13 : ∀ k, 0 ≤ k → k < nc → 0 ≤ A13 k ∧ A13 k < nm) (h14 : ∀ k, 0 ≤ k → k < nc → 0 ≤ A14 k ∧ A14 k < 12800) (h9 : ∀ i, 0 ≤ i → i < nm → R64 (A9 i)) (h10 : ∀ i, 0 ≤ i → i < nm → R64 (A10 i)) (ht9 : R64 t9) (hs9 : R64 s9) (hi9 : R32 i9) (he9 : R32 e9) : MG G l yX7_at wsX7_at 2 80 0 0 [.ref r, .long (lI t9), .long (lI s9), .int (iI i9), .int (iI e9)] w (pI (fun (x : Int) (w' : Wd) => Fr mT w w' ∧ ((RefAt G r ad w' 1 nw op sm ti sp nm nc sz ts av fi wr rm rc A1 A3 A4 A9 A10 A11 A13 A14 A15 A16 A18 A20 A25 A26 A27 A28 A30 A31 ∧ ¬ (0 ≤ i9 ∧ i9 < nw ∧ 0 ≤ e9 ∧ e9 < A1 i9)) ∨ (RefAt G r ad w' 0 nw op sm ti sp nm nc sz ts av fi wr rm rc A1 A3 A4 A9 A10 A11 A13 A14 A15 A16 A18 A20 A25 A26 A27 A28 A30 A31 ∧ (0 ≤ i9 ∧ i9 < nw ∧ 0 ≤ e9 ∧ e9 < A1 i9) ∧ x = atV A9 A10 A13 A14 A16 t9 s9 (64 * i9 + e9) nc.toNat)))) := by
  refine MG.of (cc := cX7_at) (nL := 11) (ret := (some .int)) (ll := [some (.ref r), some (.long (lI t9)), none, some (.long (lI s9)), none, some (.int (iI i9)), some (.int (iI e9)), none, none, none, none]) (by decide) rfl (Nat.le_of_ble_eq_true rfl) rfl ?_
  intro p e s m args below meth c C
  have hts := C.2.2.2.2.1
  have p66 : PutF G s m args 66 10 0 (.int) := putF_of C 10 0 tyX7 tyX7_ok nmX7 (T := TX7) (N := 33) (Cn := RX7) (ref := "TraceBookModel") rfl (by decide) (fun _ h => List.mem_cons_of_mem _ (List.mem_append_right _ (h))) (List.mem_of_getElem? (i := 2) rfl) (fun _ h => h) rfl (by decide +kernel)
  have g133 : GetF G s m args 133 10 17 := getF_of C 10 17 (T := TX7) (N := 33) (Cn := RX7) (ref := "TraceBookModel") rfl (by decide) (fun _ h => List.mem_cons_of_mem _ (List.mem_append_right _ (h))) (List.mem_of_getElem? (i := 3) rfl) (fun _ h => h)
  have g66 : GetF G s m args 66 10 0 := getF_of C 10 0 (T := TX7) (N := 33) (Cn := RX7) (ref := "TraceBookModel") rfl (by decide) (fun _ h => List.mem_cons_of_mem _ (List.mem_append_right _ (h))) (List.mem_of_getElem? (i := 2) rfl) (fun _ h => h)
  have g29 : GetF G s m args 29 10 13 := getF_of C 10 13 (T := TX7) (N := 33) (Cn := RX7) (ref := "TraceBookModel") rfl (by decide) (fun _ h => List.mem_cons_of_mem _ (List.mem_append_right _ (h))) (List.mem_of_getElem? (i := 4) rfl) (fun _ h => h)
  have g32 : GetF G s m args 32 10 14 := getF_of C 10 14 (T := TX7) (N := 33) (Cn := RX7) (ref := "TraceBookModel") rfl (by decide) (fun _ h => List.mem_cons_of_mem _ (List.mem_append_right _ (h))) (List.mem_of_getElem? (i := 7) rfl) (fun _ h => h)
  have g38 : GetF G s m args 38 10 16 := getF_of C 10 16 (T := TX7) (N := 33) (Cn := RX7) (ref := "TraceBookModel") rfl (by decide) (fun _ h => List.mem_cons_of_mem _ (List.mem_append_right _ (h))) (List.mem_of_getElem? (i := 8) rfl) (fun _ h => h)
  have g19 : GetF G s m args 19 10 9 := getF_of C 10 9 (T := TX7) (N := 33) (Cn := RX7) (ref := "TraceBookModel") rfl (by decide) (fun _ h => List.mem_cons_of_mem _ (List.mem_append_right _ (h))) (List.mem_of_getElem? (i := 5) rfl) (fun _ h => h)
  have g23 : GetF G s m args 23 10 10 := getF_of C 10 10 (T := TX7) (N := 33) (Cn := RX7) (ref := "TraceBookModel") rfl (by decide) (fun _ h => List.mem_cons_of_mem _ (List.mem_append_right _ (h))) (List.mem_of_getElem? (i := 6) rfl) (fun _ h => h)
  have g7 : GetF G s m args 7 10 1 := getF_of C 10 1 (T := TX7) (N := 33) (Cn := RX7) (ref := "TraceBookModel") rfl (by decide) (fun _ h => List.mem_cons_of_mem _ (List.mem_append_right _ (h))) (List.mem_of_getElem? (i := 1) rfl) (fun _ h => h)
  refine poI (P := fun PO => V G p l e _ s m args below meth c (MQW G below args s _ _ (pI PO)) w 0 0 0 _ []) (fun PO hPO => ?_)
  obtain ⟨w0, hw0⟩ : ∃ z, z = w := ⟨_, rfl⟩
  rw [← hw0] at hPO
  have hF : Fr mT w0 w := by rw [hw0]; exact Fr.rf
  refine v_aload_n C dX7_at_0 rfl ?_
  have J32 : ∀ q2 : Int, (q2 = 1 ∧ ¬ (0 ≤ i9 ∧ i9 < nw ∧ 0 ≤ e9 ∧ e9 < A1 i9)) ∨ (q2 = 0 ∧ (0 ≤ i9 ∧ i9 < nw ∧ 0 ≤ e9 ∧ e9 < A1 i9)) → V G p l e { frames := 2, cells := 0, slots := 0, locals := 80 } s m args below meth c (MQW G below args s 0 0 (pI PO)) w 0 0 32 [some (.ref r), some (.long (lI t9)), none, some (.long (lI s9)), none, some (.int (iI i9)), some (.int (iI e9)), none, none, none, none] [.int (iI q2), .ref r] := by
    intro q2 h32
    refine m_put_0 C p66 hR dX7_at_32 (fun w hR hF9 => ?_)
    have hF := hF.tr hF9
    refine v_iconst C dX7_at_35 ?_
    refine v_istore C dX7_at_36 sl_11_7 (by decide) rfl ?_
    refine v_iconst C dX7_at_38 ?_
    refine v_istore C dX7_at_39 sl_11_8 (by decide) rfl ?_
    have L41 : ∀ (N : Nat) (j v : Int), (0 ≤ j ∧ j ≤ nc) → (q2 = 0 → v = atV A9 A10 A13 A14 A16 t9 s9 (64 * i9 + e9) j.toNat) → (q2 = 0 ∨ v = 0) → (nc - j).toNat < N → V G p l e { frames := 2, cells := 0, slots := 0, locals := 80 } s m args below meth c (MQW G below args s 0 0 (pI PO)) w 0 0 41 [some (.ref r), some (.long (lI t9)), none, some (.long (lI s9)), none, some (.int (iI i9)), some (.int (iI e9)), some (.int (iI v)), some (.int (iI j)), none, none] [] := by
      intro N
      induction N with
      | zero => intro j v hj hv hv2 hm; exact absurd hm (Nat.not_lt_zero _)
      | succ N ih =>
        intro j v hj hv hv2 hm
        refine v_iload C dX7_at_41 rfl ?_
        refine v_aload_n C dX7_at_43 rfl ?_
        refine v_getf C g133 hR.1 rfl dX7_at_44 ?_
        refine v_icmp_ge C (⟨by omega, by omega⟩) (⟨by omega, by omega⟩) (tgt := 152) dX7_at_47 (by decide) (fun c_47 => ?_) (fun c_47 => ?_)
        · refine v_iload C dX7_at_152 rfl ?_
          exact v_iret C rfl dX7_at_154 (Nat.le_refl _) (Nat.le_refl _) (hPO _ _ ⟨hF, by
              rcases h32 with ⟨rfl, h99⟩ | ⟨rfl, h99⟩
              · exact Or.inl ⟨hR, h99⟩
              · exact Or.inr ⟨hR, h99, by first | (rw [hv rfl, show j = nc by omega]) | (exfalso; omega)⟩⟩)
        · refine v_aload_n C dX7_at_50 rfl ?_
          refine v_getf C g66 hR.1 rfl dX7_at_51 ?_
          refine v_if_ne C (⟨by omega, by omega⟩) (tgt := 152) dX7_at_54 (by decide) (fun c_54 => ?_) (fun c_54 => ?_)
          · refine v_iload C dX7_at_152 rfl ?_
            exact v_iret C rfl dX7_at_154 (Nat.le_refl _) (Nat.le_refl _) (hPO _ _ ⟨hF, by
                rcases h32 with ⟨rfl, h99⟩ | ⟨rfl, h99⟩
                · exact Or.inl ⟨hR, h99⟩
                · exact Or.inr ⟨hR, h99, by first | (rw [hv rfl, show j = nc by omega]) | (exfalso; omega)⟩⟩)
          · have hb13 := h13 j (by omega) (by omega)
            have hb14 := h14 j (by omega) (by omega)
            have hA1 := h1 i9 (by omega) (by omega)
            refine v_aload_n C dX7_at_57 rfl ?_
            refine v_getf C g29 hR.1 rfl dX7_at_58 ?_
            refine v_iload C dX7_at_61 rfl ?_
            refine v_iald C hR.a13 (⟨by omega, by omega⟩) (by omega) (by omega) dX7_at_63 ?_
            refine v_istore C dX7_at_64 sl_11_9 (by decide) rfl ?_
            have J107 : ∀ q5 : Int, BP q5 (t9 < A9 (A13 j) ∨ (A9 (A13 j) = t9 ∧ s9 < A10 (A13 j))) → V G p l e { frames := 2, cells := 0, slots := 0, locals := 80 } s m args below meth c (MQW G below args s 0 0 (pI PO)) w 0 0 107 [some (.ref r), some (.long (lI t9)), none, some (.long (lI s9)), none, some (.int (iI i9)), some (.int (iI e9)), some (.int (iI v)), some (.int (iI j)), some (.int (iI (A13 j))), none] [.int (iI q5)] := by
              intro q5 h107
              refine v_istore C dX7_at_107 sl_11_10 (by decide) rfl ?_
              refine v_aload_n C dX7_at_109 rfl ?_
              refine v_getf C g32 hR.1 rfl dX7_at_110 ?_
              refine v_iload C dX7_at_113 rfl ?_
              refine v_iald C hR.a14 (⟨by omega, by omega⟩) (by omega) (by omega) dX7_at_115 ?_
              refine v_bipush C dX7_at_116 rfl ?_
              refine v_iload C dX7_at_118 rfl ?_
              refine v_imul C dX7_at_120 ?_
              refine v_iload C dX7_at_121 rfl ?_
              refine v_iadd C dX7_at_123 ?_
              refine v_icmp_ne C (⟨by omega, by omega⟩) (⟨by omega, by omega⟩) (tgt := 142) dX7_at_124 (by decide) (fun c_124 => ?_) (fun c_124 => ?_)
              · refine v_iload C dX7_at_142 rfl ?_
                refine v_istore C dX7_at_144 sl_11_7 (by decide) rfl ?_
                refine v_iinc C dX7_at_146 rfl sl_11_8 (by decide) rfl ?_
                refine v_goto C (tgt := 41) dX7_at_149 (by decide) ?_
                refine v_kill 9 sk_11_9 ?_
                refine v_kill 10 sk_11_10 ?_
                exact ih (j + 1) _ ⟨by omega, by omega⟩ (fun q => by
                  rw [show (j + 1).toNat = j.toNat + 1 by omega, atV, show ((j.toNat : Nat) : Int) = j by omega, if_neg (fun q9 => c_124 q9.1)]
                  exact hv q) (Or.inl c_54) (by omega)
              · refine v_iload C dX7_at_127 rfl ?_
                refine v_if_ne C (h107.r32) (tgt := 142) dX7_at_129 (by decide) (fun c_129 => ?_) (fun c_129 => ?_)
                · refine v_iload C dX7_at_142 rfl ?_
                  refine v_istore C dX7_at_144 sl_11_7 (by decide) rfl ?_
                  refine v_iinc C dX7_at_146 rfl sl_11_8 (by decide) rfl ?_
                  refine v_goto C (tgt := 41) dX7_at_149 (by decide) ?_
                  refine v_kill 9 sk_11_9 ?_
                  refine v_kill 10 sk_11_10 ?_
                  exact ih (j + 1) _ ⟨by omega, by omega⟩ (fun q => by
                    rw [show (j + 1).toNat = j.toNat + 1 by omega, atV, show ((j.toNat : Nat) : Int) = j by omega, if_neg (fun q9 => q9.2 (h107.nz c_129))]
                    exact hv q) (Or.inl c_54) (by omega)
                · refine v_aload_n C dX7_at_132 rfl ?_
                  refine v_getf C g38 hR.1 rfl dX7_at_133 ?_
                  refine v_iload C dX7_at_136 rfl ?_
                  refine v_iald C hR.a16 (⟨by omega, by omega⟩) (by omega) (by omega) dX7_at_138 ?_
                  refine v_goto C (tgt := 144) dX7_at_139 (by decide) ?_
                  refine v_istore C dX7_at_144 sl_11_7 (by decide) rfl ?_
                  refine v_iinc C dX7_at_146 rfl sl_11_8 (by decide) rfl ?_
                  refine v_goto C (tgt := 41) dX7_at_149 (by decide) ?_
                  refine v_kill 9 sk_11_9 ?_
                  refine v_kill 10 sk_11_10 ?_
                  exact ih (j + 1) _ ⟨by omega, by omega⟩ (fun q => by
                    rw [show (j + 1).toNat = j.toNat + 1 by omega, atV, show ((j.toNat : Nat) : Int) = j by omega, if_pos ⟨c_124, h107.z c_129⟩]) (Or.inl c_54) (by omega)
            refine v_aload_n C dX7_at_66 rfl ?_
            refine v_getf C g19 hR.1 rfl dX7_at_67 ?_
            refine v_iload C dX7_at_70 rfl ?_
            refine v_lald C hR.a9 (⟨by omega, by omega⟩) (by omega) (by omega) dX7_at_72 ?_
            refine v_lload_n C dX7_at_73 rfl ?_
            refine v_lcmp_gt C (h9 _ hb13.1 hb13.2) (⟨by omega, by omega⟩) (tgt := 102) dX7_at_74 dX7_at_75 (by decide) (fun c_74 => ?_) (fun c_74 => ?_)
            · refine v_iconst C dX7_at_102 ?_
              refine v_goto C (tgt := 107) dX7_at_103 (by decide) ?_
              exact J107 _ (Or.inl ⟨rfl, by omega⟩)
            · refine v_aload_n C dX7_at_78 rfl ?_
              refine v_getf C g19 hR.1 rfl dX7_at_79 ?_
              refine v_iload C dX7_at_82 rfl ?_
              refine v_lald C hR.a9 (⟨by omega, by omega⟩) (by omega) (by omega) dX7_at_84 ?_
              refine v_lload_n C dX7_at_85 rfl ?_
              refine v_lcmp_ne C (h9 _ hb13.1 hb13.2) (⟨by omega, by omega⟩) (tgt := 106) dX7_at_86 dX7_at_87 (by decide) (fun c_86 => ?_) (fun c_86 => ?_)
              · refine v_iconst C dX7_at_106 ?_
                exact J107 _ (Or.inr ⟨rfl, by omega⟩)
              · refine v_aload_n C dX7_at_90 rfl ?_
                refine v_getf C g23 hR.1 rfl dX7_at_91 ?_
                refine v_iload C dX7_at_94 rfl ?_
                refine v_lald C hR.a10 (⟨by omega, by omega⟩) (by omega) (by omega) dX7_at_96 ?_
                refine v_lload_n C dX7_at_97 rfl ?_
                refine v_lcmp_le C (h10 _ hb13.1 hb13.2) (⟨by omega, by omega⟩) (tgt := 106) dX7_at_98 dX7_at_99 (by decide) (fun c_98 => ?_) (fun c_98 => ?_)
                · refine v_iconst C dX7_at_106 ?_
                  exact J107 _ (Or.inr ⟨rfl, by omega⟩)
                · refine v_iconst C dX7_at_102 ?_
                  refine v_goto C (tgt := 107) dX7_at_103 (by decide) ?_
                  exact J107 _ (Or.inl ⟨rfl, by omega⟩)
    exact L41 _ 0 0 ⟨by omega, by omega⟩ (fun _ => rfl) (Or.inr rfl) (Nat.lt_succ_self _)
  refine v_aload_n C dX7_at_1 rfl ?_
  refine v_iload C dX7_at_2 rfl ?_
  refine v_callVi C (q := (RX7, TX7, 33)) (As := [_]) (rest := [_]) (c_X7_none hR h0 hi9) (cwV 1 hts gX7_at_X7_none rfl rfl rfl (by decide +kernel) ⟨Nat.le_of_ble_eq_true rfl, Nat.le_of_ble_eq_true rfl⟩) hR.1 rfl rfl rfl (Nat.le_of_ble_eq_true rfl) dX7_at_4 (Nat.le_of_ble_eq_true rfl) (Nat.le_of_ble_eq_true rfl) (fun x_4 w hp => ?_)
  obtain ⟨rfl, h4⟩ := hp
  refine v_wide (k' := 0) (z' := 0) (Nat.le_refl _) (Nat.le_refl _) ?_
  refine v_if_ne C (h4.r32) (tgt := 27) dX7_at_7 (by decide) (fun c_7 => ?_) (fun c_7 => ?_)
  · refine v_iconst C dX7_at_27 ?_
    refine v_goto C (tgt := 32) dX7_at_28 (by decide) ?_
    first
      | (have h9 := h4.nz c_7; exact J32 _ (Or.inl ⟨rfl, by omega⟩))
      | exact J32 _ (Or.inl ⟨rfl, by omega⟩)
  · have h99 := h4.z c_7
    refine v_iload C dX7_at_10 rfl ?_
    refine v_if_lt C (⟨by omega, by omega⟩) (tgt := 27) dX7_at_12 (by decide) (fun c_12 => ?_) (fun c_12 => ?_)
    · refine v_iconst C dX7_at_27 ?_
      refine v_goto C (tgt := 32) dX7_at_28 (by decide) ?_
      first
        | (have h9 := h4.nz c_7; exact J32 _ (Or.inl ⟨rfl, by omega⟩))
        | exact J32 _ (Or.inl ⟨rfl, by omega⟩)
    · refine v_iload C dX7_at_15 rfl ?_
      refine v_aload_n C dX7_at_17 rfl ?_
      refine v_getf C g7 hR.1 rfl dX7_at_18 ?_
      refine v_iload C dX7_at_21 rfl ?_
      refine v_iald C hR.a1 (⟨by omega, by omega⟩) (by omega) (by omega) dX7_at_23 ?_
      refine v_icmp_lt C (⟨by omega, by omega⟩) (⟨by have := h1 i9 (by omega) (by omega); omega, by have := h1 i9 (by omega) (by omega); omega⟩) (tgt := 31) dX7_at_24 (by decide) (fun c_24 => ?_) (fun c_24 => ?_)
      · refine v_iconst C dX7_at_31 ?_
        have h9 := h4.z c_7
        exact J32 _ (Or.inr ⟨rfl, by omega⟩)
      · refine v_iconst C dX7_at_27 ?_
        refine v_goto C (tgt := 32) dX7_at_28 (by decide) ?_
        first
          | (have h9 := h4.nz c_7; exact J32 _ (Or.inl ⟨rfl, by omega⟩))
          | exact J32 _ (Or.inl ⟨rfl, by omega⟩)
set_option maxRecDepth 100000 in
set_option maxHeartbeats 8000000 in
theorem c_X7_next {G : GG} {l : Launch} {r : Nat} {ad : Nat → Nat} {w : Wd} {c0 nw op sm ti sp nm nc sz ts av fi wr rm rc : Int} {A1 A3 A4 A9 A10 A11 A13 A14 A15 A16 A18 A20 A25 A26 A27 A28 A30 A31 : Int → Int} {i9 e9 : Int} (hR : RefAt G r ad w c0 nw op sm ti sp nm nc sz ts av fi wr rm rc A1 A3 A4 A9 A10 A11 A13 A14 A15 A16 A18 A20 A25 A26 A27 A28 A30 A31) (h0 : 0 ≤ nw ∧ nw ≤ 200) (hm : 0 ≤ nm ∧ nm ≤ 15000) (hnc1 : 0 ≤ nc ∧ nc ≤ 30001) (h13 : ∀ k, 0 ≤ k → k < nc → 0 ≤ A13 k ∧ A13 k < nm) (h14 : ∀ k, 0 ≤ k → k < nc → 0 ≤ A14 k ∧ A14 k < 12800) (hi9 : R32 i9) (he9 : R32 e9) : MG G l yX7_next wsX7_next 2 80 0 0 [.ref r, .int (iI i9), .int (iI e9)] w (pI (fun (x : Int) (w' : Wd) => Fr mT w w' ∧ ((RefAt G r ad w' 1 nw op sm ti sp nm nc sz ts av fi wr rm rc A1 A3 A4 A9 A10 A11 A13 A14 A15 A16 A18 A20 A25 A26 A27 A28 A30 A31 ∧ ¬ (0 ≤ i9 ∧ i9 < nw)) ∨ (RefAt G r ad w' 2 nw op sm ti sp nm nc sz ts av fi wr rm rc A1 A3 A4 A9 A10 A11 A13 A14 A15 A16 A18 A20 A25 A26 A27 A28 A30 A31 ∧ (0 ≤ i9 ∧ i9 < nw) ∧ e9 < 0) ∨ (RefAt G r ad w' 0 nw op sm ti sp nm nc sz ts av fi wr rm rc A1 A3 A4 A9 A10 A11 A13 A14 A15 A16 A18 A20 A25 A26 A27 A28 A30 A31 ∧ (0 ≤ i9 ∧ i9 < nw) ∧ 0 ≤ e9 ∧ x = nxV A13 A14 e9 i9 nc.toNat 0)))) := by
  refine MG.of (cc := cX7_next) (nL := 5) (ret := (some .int)) (ll := [some (.ref r), some (.int (iI i9)), some (.int (iI e9)), none, none]) (by decide) rfl (Nat.le_of_ble_eq_true rfl) rfl ?_
  intro p e s m args below meth c C
  have hts := C.2.2.2.2.1
  have p66 : PutF G s m args 66 10 0 (.int) := putF_of C 10 0 tyX7 tyX7_ok nmX7 (T := TX7) (N := 33) (Cn := RX7) (ref := "TraceBookModel") rfl (by decide) (fun _ h => List.mem_cons_of_mem _ (List.mem_append_right _ (h))) (List.mem_of_getElem? (i := 1) rfl) (fun _ h => h) rfl (by decide +kernel)
  have g133 : GetF G s m args 133 10 17 := getF_of C 10 17 (T := TX7) (N := 33) (Cn := RX7) (ref := "TraceBookModel") rfl (by decide) (fun _ h => List.mem_cons_of_mem _ (List.mem_append_right _ (h))) (List.mem_of_getElem? (i := 2) rfl) (fun _ h => h)
  have g66 : GetF G s m args 66 10 0 := getF_of C 10 0 (T := TX7) (N := 33) (Cn := RX7) (ref := "TraceBookModel") rfl (by decide) (fun _ h => List.mem_cons_of_mem _ (List.mem_append_right _ (h))) (List.mem_of_getElem? (i := 1) rfl) (fun _ h => h)
  have g29 : GetF G s m args 29 10 13 := getF_of C 10 13 (T := TX7) (N := 33) (Cn := RX7) (ref := "TraceBookModel") rfl (by decide) (fun _ h => List.mem_cons_of_mem _ (List.mem_append_right _ (h))) (List.mem_of_getElem? (i := 3) rfl) (fun _ h => h)
  have g32 : GetF G s m args 32 10 14 := getF_of C 10 14 (T := TX7) (N := 33) (Cn := RX7) (ref := "TraceBookModel") rfl (by decide) (fun _ h => List.mem_cons_of_mem _ (List.mem_append_right _ (h))) (List.mem_of_getElem? (i := 4) rfl) (fun _ h => h)
  refine poI (P := fun PO => V G p l e _ s m args below meth c (MQW G below args s _ _ (pI PO)) w 0 0 0 _ []) (fun PO hPO => ?_)
  obtain ⟨w0, hw0⟩ : ∃ z, z = w := ⟨_, rfl⟩
  rw [← hw0] at hPO
  have hF : Fr mT w0 w := by rw [hw0]; exact Fr.rf
  refine v_aload_n C dX7_next_0 rfl ?_
  have J22 : ∀ q2 : Int, (q2 = 1 ∧ ¬ (0 ≤ i9 ∧ i9 < nw)) ∨ (q2 = 2 ∧ (0 ≤ i9 ∧ i9 < nw) ∧ e9 < 0) ∨ (q2 = 0 ∧ (0 ≤ i9 ∧ i9 < nw) ∧ 0 ≤ e9) → V G p l e { frames := 2, cells := 0, slots := 0, locals := 80 } s m args below meth c (MQW G below args s 0 0 (pI PO)) w 0 0 22 [some (.ref r), some (.int (iI i9)), some (.int (iI e9)), none, none] [.int (iI q2), .ref r] := by
    intro q2 h22
    refine m_put_0 C p66 hR dX7_next_22 (fun w hR hF9 => ?_)
    have hF := hF.tr hF9
    refine v_iconst C dX7_next_25 ?_
    refine v_istore_n C dX7_next_26 sl_5_3 (by decide) rfl ?_
    refine v_aload_n C dX7_next_27 rfl ?_
    refine v_getf C g133 hR.1 rfl dX7_next_28 ?_
    refine v_iconst C dX7_next_31 ?_
    refine v_isub C dX7_next_32 ?_
    refine v_istore C dX7_next_33 sl_5_4 (by decide) rfl ?_
    have L35 : ∀ (N : Nat) (j v : Int), (-1 ≤ j ∧ j < nc) → (q2 = 0 → v = nxV A13 A14 e9 i9 (nc - 1 - j).toNat (j + 1)) → (j + 1).toNat < N → V G p l e { frames := 2, cells := 0, slots := 0, locals := 80 } s m args below meth c (MQW G below args s 0 0 (pI PO)) w 0 0 35 [some (.ref r), some (.int (iI i9)), some (.int (iI e9)), some (.int (iI v)), some (.int (iI j))] [] := by
      intro N
      induction N with
      | zero => intro j v hj hv hm; exact absurd hm (Nat.not_lt_zero _)
      | succ N ih =>
        intro j v hj hv hm
        refine v_iload C dX7_next_35 rfl ?_
        refine v_if_lt C (⟨by omega, by omega⟩) (tgt := 90) dX7_next_37 (by decide) (fun c_37 => ?_) (fun c_37 => ?_)
        · refine v_aload_n C dX7_next_90 rfl ?_
          refine v_getf C g66 hR.1 rfl dX7_next_91 ?_
          refine v_if_le C (⟨by omega, by omega⟩) (tgt := 101) dX7_next_94 (by decide) (fun c_94 => ?_) (fun c_94 => ?_)
          · refine v_iload_n C dX7_next_101 rfl ?_
            exact v_iret C rfl dX7_next_102 (Nat.le_refl _) (Nat.le_refl _) (hPO _ _ ⟨hF, by
                rcases h22 with ⟨rfl, h99⟩ | ⟨rfl, h99⟩ | ⟨rfl, h99⟩
                · exact Or.inl ⟨hR, h99⟩
                · exact Or.inr (Or.inl ⟨hR, h99⟩)
                · exact Or.inr (Or.inr ⟨hR, h99.1, h99.2, by first | (rw [hv rfl, show j = -1 by omega, show (nc - 1 - -1).toNat = nc.toNat by omega]; rfl) | (exfalso; omega)⟩)⟩)
          · refine v_iconst C dX7_next_97 ?_
            refine v_goto C (tgt := 102) dX7_next_98 (by decide) ?_
            exact v_iret C rfl dX7_next_102 (Nat.le_refl _) (Nat.le_refl _) (hPO _ _ ⟨hF, by
                rcases h22 with ⟨rfl, h99⟩ | ⟨rfl, h99⟩ | ⟨rfl, h99⟩
                · exact Or.inl ⟨hR, h99⟩
                · exact Or.inr (Or.inl ⟨hR, h99⟩)
                · exact Or.inr (Or.inr ⟨hR, h99.1, h99.2, by first | (rw [hv rfl, show j = -1 by omega, show (nc - 1 - -1).toNat = nc.toNat by omega]; rfl) | (exfalso; omega)⟩)⟩)
        · refine v_aload_n C dX7_next_40 rfl ?_
          refine v_getf C g66 hR.1 rfl dX7_next_41 ?_
          refine v_if_ne C (⟨by omega, by omega⟩) (tgt := 90) dX7_next_44 (by decide) (fun c_44 => ?_) (fun c_44 => ?_)
          · refine v_aload_n C dX7_next_90 rfl ?_
            refine v_getf C g66 hR.1 rfl dX7_next_91 ?_
            refine v_if_le C (⟨by omega, by omega⟩) (tgt := 101) dX7_next_94 (by decide) (fun c_94 => ?_) (fun c_94 => ?_)
            · refine v_iload_n C dX7_next_101 rfl ?_
              exact v_iret C rfl dX7_next_102 (Nat.le_refl _) (Nat.le_refl _) (hPO _ _ ⟨hF, by
                  rcases h22 with ⟨rfl, h99⟩ | ⟨rfl, h99⟩ | ⟨rfl, h99⟩
                  · exact Or.inl ⟨hR, h99⟩
                  · exact Or.inr (Or.inl ⟨hR, h99⟩)
                  · exact Or.inr (Or.inr ⟨hR, h99.1, h99.2, by first | (rw [hv rfl, show j = -1 by omega, show (nc - 1 - -1).toNat = nc.toNat by omega]; rfl) | (exfalso; omega)⟩)⟩)
            · refine v_iconst C dX7_next_97 ?_
              refine v_goto C (tgt := 102) dX7_next_98 (by decide) ?_
              exact v_iret C rfl dX7_next_102 (Nat.le_refl _) (Nat.le_refl _) (hPO _ _ ⟨hF, by
                  rcases h22 with ⟨rfl, h99⟩ | ⟨rfl, h99⟩ | ⟨rfl, h99⟩
                  · exact Or.inl ⟨hR, h99⟩
                  · exact Or.inr (Or.inl ⟨hR, h99⟩)
                  · exact Or.inr (Or.inr ⟨hR, h99.1, h99.2, by first | (rw [hv rfl, show j = -1 by omega, show (nc - 1 - -1).toNat = nc.toNat by omega]; rfl) | (exfalso; omega)⟩)⟩)
          · have hb13 := h13 j (by omega) (by omega)
            have hb14 := h14 j (by omega) (by omega)
            refine v_aload_n C dX7_next_47 rfl ?_
            refine v_getf C g29 hR.1 rfl dX7_next_48 ?_
            refine v_iload C dX7_next_51 rfl ?_
            refine v_iald C hR.a13 (⟨by omega, by omega⟩) (by omega) (by omega) dX7_next_53 ?_
            refine v_iload_n C dX7_next_54 rfl ?_
            refine v_icmp_lt C (⟨by omega, by omega⟩) (⟨by omega, by omega⟩) (tgt := 82) dX7_next_55 (by decide) (fun c_55 => ?_) (fun c_55 => ?_)
            · refine v_iload_n C dX7_next_82 rfl ?_
              refine v_istore_n C dX7_next_83 sl_5_3 (by decide) rfl ?_
              refine v_iinc C dX7_next_84 rfl sl_5_4 (by decide) rfl ?_
              refine v_goto C (tgt := 35) dX7_next_87 (by decide) ?_
              exact ih (j + -1) _ ⟨by omega, by omega⟩ (fun q => by
                rw [show (nc - 1 - (j + -1)).toNat = (nc - 1 - j).toNat + 1 by omega, show j + -1 + 1 = j by omega, nxV, if_neg (fun q9 => by have := q9.1; omega)]
                exact hv q) (by omega)
            · refine v_aload_n C dX7_next_58 rfl ?_
              refine v_getf C g32 hR.1 rfl dX7_next_59 ?_
              refine v_iload C dX7_next_62 rfl ?_
              refine v_iald C hR.a14 (⟨by omega, by omega⟩) (by omega) (by omega) dX7_next_64 ?_
              refine v_bipush C dX7_next_65 rfl ?_
              refine v_idiv C (⟨by omega, by omega⟩) (by omega) (⟨by omega, by omega⟩) (by omega) dX7_next_67 ?_
              refine v_iload_n C dX7_next_68 rfl ?_
              refine v_icmp_ne C (⟨by omega, by omega⟩) (⟨by omega, by omega⟩) (tgt := 82) dX7_next_69 (by decide) (fun c_69 => ?_) (fun c_69 => ?_)
              · refine v_iload_n C dX7_next_82 rfl ?_
                refine v_istore_n C dX7_next_83 sl_5_3 (by decide) rfl ?_
                refine v_iinc C dX7_next_84 rfl sl_5_4 (by decide) rfl ?_
                refine v_goto C (tgt := 35) dX7_next_87 (by decide) ?_
                exact ih (j + -1) _ ⟨by omega, by omega⟩ (fun q => by
                  rw [show (nc - 1 - (j + -1)).toNat = (nc - 1 - j).toNat + 1 by omega, show j + -1 + 1 = j by omega, nxV, if_neg (fun q9 => c_69 q9.2)]
                  exact hv q) (by omega)
              · refine v_aload_n C dX7_next_72 rfl ?_
                refine v_getf C g29 hR.1 rfl dX7_next_73 ?_
                refine v_iload C dX7_next_76 rfl ?_
                refine v_iald C hR.a13 (⟨by omega, by omega⟩) (by omega) (by omega) dX7_next_78 ?_
                refine v_goto C (tgt := 83) dX7_next_79 (by decide) ?_
                refine v_istore_n C dX7_next_83 sl_5_3 (by decide) rfl ?_
                refine v_iinc C dX7_next_84 rfl sl_5_4 (by decide) rfl ?_
                refine v_goto C (tgt := 35) dX7_next_87 (by decide) ?_
                exact ih (j + -1) _ ⟨by omega, by omega⟩ (fun q => by
                  rw [show (nc - 1 - (j + -1)).toNat = (nc - 1 - j).toNat + 1 by omega, show j + -1 + 1 = j by omega, nxV, if_pos ⟨c_55, c_69⟩]) (by omega)
    exact L35 _ (nc - 1) (-1) ⟨by omega, by omega⟩ (fun _ => by rw [Int.sub_self]; rfl) (Nat.lt_succ_self _)
  refine v_aload_n C dX7_next_1 rfl ?_
  refine v_iload_n C dX7_next_2 rfl ?_
  refine v_callVi C (q := (RX7, TX7, 33)) (As := [_]) (rest := [_]) (c_X7_none hR h0 hi9) (cwV 1 hts gX7_next_X7_none rfl rfl rfl (by decide +kernel) ⟨Nat.le_of_ble_eq_true rfl, Nat.le_of_ble_eq_true rfl⟩) hR.1 rfl rfl rfl (Nat.le_of_ble_eq_true rfl) dX7_next_3 (Nat.le_of_ble_eq_true rfl) (Nat.le_of_ble_eq_true rfl) (fun x_3 w hp => ?_)
  obtain ⟨rfl, h3⟩ := hp
  refine v_wide (k' := 0) (z' := 0) (Nat.le_refl _) (Nat.le_refl _) ?_
  refine v_if_eq C (h3.r32) (tgt := 13) dX7_next_6 (by decide) (fun c_6 => ?_) (fun c_6 => ?_)
  · refine v_iload_n C dX7_next_13 rfl ?_
    refine v_if_ge C (⟨by omega, by omega⟩) (tgt := 21) dX7_next_14 (by decide) (fun c_14 => ?_) (fun c_14 => ?_)
    · refine v_iconst C dX7_next_21 ?_
      have h9 := h3.z c_6
      exact J22 _ (Or.inr (Or.inr ⟨rfl, by omega, by omega⟩))
    · refine v_iconst C dX7_next_17 ?_
      refine v_goto C (tgt := 22) dX7_next_18 (by decide) ?_
      have h9 := h3.z c_6
      exact J22 _ (Or.inr (Or.inl ⟨rfl, by omega, by omega⟩))
  · refine v_iconst C dX7_next_9 ?_
    refine v_goto C (tgt := 22) dX7_next_10 (by decide) ?_
    have h9 := h3.nz c_6
    exact J22 _ (Or.inl ⟨rfl, by omega⟩)
set_option maxRecDepth 100000 in
set_option maxHeartbeats 8000000 in
theorem c_X7_feed {G : GG} {l : Launch} {r : Nat} {ad : Nat → Nat} {w : Wd} {c0 nw op sm ti sp nm nc sz ts av fi wr rm rc : Int} {A1 A3 A4 A9 A10 A11 A13 A14 A15 A16 A18 A20 A25 A26 A27 A28 A30 A31 : Int → Int} {i9 : Int} (hR : RefAt G r ad w c0 nw op sm ti sp nm nc sz ts av fi wr rm rc A1 A3 A4 A9 A10 A11 A13 A14 A15 A16 A18 A20 A25 A26 A27 A28 A30 A31) (h0 : 0 ≤ ts ∧ ts ≤ 60000) (hi9 : R32 i9) : MG G l yX7_feed wsX7_feed 1 40 0 0 [.ref r, .int (iI i9)] w (pI (fun (x : Int) (w' : Wd) => Fr mT w w' ∧ ((59996 < ts ∧ RefAt G r ad w' 1 nw op sm ti sp nm nc sz ts av fi wr rm rc A1 A3 A4 A9 A10 A11 A13 A14 A15 A16 A18 A20 A25 A26 A27 A28 A30 A31) ∨ (ts ≤ 59996 ∧ x = ts + 4 ∧ RefAt G r ad w' 0 nw op sm ti sp nm nc sz (ts + 4) av fi wr rm rc A1 A3 A4 A9 A10 A11 A13 A14 A15 A16 A18 (putL A20 ts (fbL i9 4)) A25 A26 A27 A28 A30 A31)))) := by
  refine MG.of (cc := cX7_feed) (nL := 3) (ret := (some .int)) (ll := [some (.ref r), some (.int (iI i9)), none]) (by decide) rfl (Nat.le_of_ble_eq_true rfl) rfl ?_
  intro p e s m args below meth c C
  have hts := C.2.2.2.2.1
  have p66 : PutF G s m args 66 10 0 (.int) := putF_of C 10 0 tyX7 tyX7_ok nmX7 (T := TX7) (N := 33) (Cn := RX7) (ref := "TraceBookModel") rfl (by decide) (fun _ h => List.mem_cons_of_mem _ (List.mem_append_right _ (h))) (List.mem_of_getElem? (i := 3) rfl) (fun _ h => h) rfl (by decide +kernel)
  have g66 : GetF G s m args 66 10 0 := getF_of C 10 0 (T := TX7) (N := 33) (Cn := RX7) (ref := "TraceBookModel") rfl (by decide) (fun _ h => List.mem_cons_of_mem _ (List.mem_append_right _ (h))) (List.mem_of_getElem? (i := 3) rfl) (fun _ h => h)
  have g148 : GetF G s m args 148 10 21 := getF_of C 10 21 (T := TX7) (N := 33) (Cn := RX7) (ref := "TraceBookModel") rfl (by decide) (fun _ h => List.mem_cons_of_mem _ (List.mem_append_right _ (h))) (List.mem_of_getElem? (i := 1) rfl) (fun _ h => h)
  have g45 : GetF G s m args 45 10 20 := getF_of C 10 20 (T := TX7) (N := 33) (Cn := RX7) (ref := "TraceBookModel") rfl (by decide) (fun _ h => List.mem_cons_of_mem _ (List.mem_append_right _ (h))) (List.mem_of_getElem? (i := 4) rfl) (fun _ h => h)
  have p148 : PutF G s m args 148 10 21 (.int) := putF_of C 10 21 tyX7 tyX7_ok nmX7 (T := TX7) (N := 33) (Cn := RX7) (ref := "TraceBookModel") rfl (by decide) (fun _ h => List.mem_cons_of_mem _ (List.mem_append_right _ (h))) (List.mem_of_getElem? (i := 1) rfl) (fun _ h => h) rfl (by decide +kernel)
  refine poI (P := fun PO => V G p l e _ s m args below meth c (MQW G below args s _ _ (pI PO)) w 0 0 0 _ []) (fun PO hPO => ?_)
  obtain ⟨w0, hw0⟩ : ∃ z, z = w := ⟨_, rfl⟩
  rw [← hw0] at hPO
  have hF : Fr mT w0 w := by rw [hw0]; exact Fr.rf
  refine v_aload_n C dX7_feed_0 rfl ?_
  have J17 : ∀ q2 : Int, (q2 = 1 ∧ 59996 < ts) ∨ (q2 = 0 ∧ ts ≤ 59996) → V G p l e { frames := 1, cells := 0, slots := 0, locals := 40 } s m args below meth c (MQW G below args s 0 0 (pI PO)) w 0 0 17 [some (.ref r), some (.int (iI i9)), none] [.int (iI q2), .ref r] := by
    intro q2 h17
    refine m_put_0 C p66 hR dX7_feed_17 (fun w hR hF9 => ?_)
    have hF := hF.tr hF9
    refine v_aload_n C dX7_feed_20 rfl ?_
    refine v_getf C g66 hR.1 rfl dX7_feed_21 ?_
    refine v_if_le C (⟨by omega, by omega⟩) (tgt := 29) dX7_feed_24 (by decide) (fun c_24 => ?_) (fun c_24 => ?_)
    · refine v_iconst C dX7_feed_29 ?_
      refine v_istore_n C dX7_feed_30 sl_3_2 (by decide) rfl ?_
      have L31 : ∀ (N : Nat) (w : Wd) (j ts2 : Int) (B20 : Int → Int), (RefAt G r ad w q2 nw op sm ti sp nm nc sz ts2 av fi wr rm rc A1 A3 A4 A9 A10 A11 A13 A14 A15 A16 A18 B20 A25 A26 A27 A28 A30 A31) → (Fr mT w0 w) → (0 ≤ j ∧ j ≤ 4) → (ts2 = ts + j) → (putL B20 ts2 (fbL i9 (4 - j).toNat) = putL A20 ts (fbL i9 4)) → (4 - j).toNat < N → V G p l e { frames := 1, cells := 0, slots := 0, locals := 40 } s m args below meth c (MQW G below args s 0 0 (pI PO)) w 0 0 31 [some (.ref r), some (.int (iI i9)), some (.int (iI j))] [] := by
        intro N
        induction N with
        | zero => intro w j ts2 B20 hR hF hj h1 h2 hm; exact absurd hm (Nat.not_lt_zero _)
        | succ N ih =>
          intro w j ts2 B20 hR hF hj h1 h2 hm
          refine v_iload_n C dX7_feed_31 rfl ?_
          refine v_iconst C dX7_feed_32 ?_
          refine v_icmp_ge C (⟨by omega, by omega⟩) (⟨by omega, by omega⟩) (tgt := 74) dX7_feed_33 (by decide) (fun c_33 => ?_) (fun c_33 => ?_)
          · refine v_aload_n C dX7_feed_74 rfl ?_
            refine v_getf C g148 hR.1 rfl dX7_feed_75 ?_
            have hj4 : j = 4 := by omega
            rw [hj4] at h2
            have h3 : B20 = putL A20 ts (fbL i9 4) := h2
            have h4 : ts2 = ts + 4 := by omega
            rw [h3, h4] at hR
            exact v_iret C rfl dX7_feed_78 (Nat.le_refl _) (Nat.le_refl _) (hPO _ _ ⟨hF, Or.inr ⟨by omega, h4, (show q2 = 0 by omega) ▸ hR⟩⟩)
          · refine v_aload_n C dX7_feed_36 rfl ?_
            refine v_getf C g45 hR.1 rfl dX7_feed_37 ?_
            refine v_aload_n C dX7_feed_40 rfl ?_
            refine v_getf C g148 hR.1 rfl dX7_feed_41 ?_
            refine v_iload_n C dX7_feed_44 rfl ?_
            refine v_bipush C dX7_feed_45 rfl ?_
            refine v_bipush C dX7_feed_47 rfl ?_
            refine v_iload_n C dX7_feed_49 rfl ?_
            refine v_imul C dX7_feed_50 ?_
            refine v_isub C dX7_feed_51 ?_
            refine v_ishr C (ishr_I hi9 (n := 8 * (4 - (j + 1)).toNat) (by omega) (by omega)) dX7_feed_52 ?_
            refine v_sipush C dX7_feed_53 rfl ?_
            refine v_iand C (iand_255 _) dX7_feed_56 ?_
            refine m_st_20 C hR (⟨by omega, by omega⟩) (by omega) (by omega) dX7_feed_57 (fun w hR hF9 => ?_)
            have hF := hF.tr hF9
            refine v_aload_n C dX7_feed_58 rfl ?_
            refine v_dup C rfl dX7_feed_59 ?_
            refine v_getf C g148 hR.1 rfl dX7_feed_60 ?_
            refine v_iconst C dX7_feed_63 ?_
            refine v_iadd C dX7_feed_64 ?_
            refine m_put_21 C p148 hR dX7_feed_65 (fun w hR hF9 => ?_)
            have hF := hF.tr hF9
            refine v_iinc C dX7_feed_68 rfl sl_3_2 (by decide) rfl ?_
            refine v_goto C (tgt := 31) dX7_feed_71 (by decide) ?_
            exact ih _ _ _ _ hR hF ⟨by omega, by omega⟩ (by omega) (by
                rw [← h2, show (4 - j).toNat = (4 - (j + 1)).toNat + 1 by omega]
                rfl) (by omega)
      exact L31 _ _ 0 _ _ hR hF ⟨by omega, by omega⟩ (by omega) rfl (Nat.lt_succ_self _)
    · refine v_iconst C dX7_feed_27 ?_
      exact v_iret C rfl dX7_feed_28 (Nat.le_refl _) (Nat.le_refl _) (hPO _ _ ⟨hF, Or.inl ⟨by omega, (show q2 = 1 by omega) ▸ hR⟩⟩)
  refine v_aload_n C dX7_feed_1 rfl ?_
  refine v_getf C g148 hR.1 rfl dX7_feed_2 ?_
  refine v_iconst C dX7_feed_5 ?_
  refine v_iadd C dX7_feed_6 ?_
  refine v_ldcI C (v := 60000) (List.mem_of_getElem? (i := 2) rfl) (by decide +kernel) dX7_feed_7 ?_
  refine v_icmp_le C (⟨by omega, by omega⟩) (⟨by omega, by omega⟩) (tgt := 16) dX7_feed_9 (by decide) (fun c_9 => ?_) (fun c_9 => ?_)
  · refine v_iconst C dX7_feed_16 ?_
    exact J17 _ (Or.inr ⟨rfl, by omega⟩)
  · refine v_iconst C dX7_feed_12 ?_
    refine v_goto C (tgt := 17) dX7_feed_13 (by decide) ?_
    exact J17 _ (Or.inl ⟨rfl, by omega⟩)
set_option maxRecDepth 100000 in
set_option maxHeartbeats 8000000 in
theorem c_X7_wire {G : GG} {l : Launch} {r : Nat} {ad : Nat → Nat} {w : Wd} {c0 nw op sm ti sp nm nc sz ts av fi wr rm rc : Int} {A1 A3 A4 A9 A10 A11 A13 A14 A15 A16 A18 A20 A25 A26 A27 A28 A30 A31 : Int → Int} {i9 : Int} (hR : RefAt G r ad w c0 nw op sm ti sp nm nc sz ts av fi wr rm rc A1 A3 A4 A9 A10 A11 A13 A14 A15 A16 A18 A20 A25 A26 A27 A28 A30 A31) (h0 : 0 ≤ nw ∧ nw ≤ 200) (hsm : sm = 0 ∨ sm = 1) (hz3 : ∀ q, 64 * nw ≤ q → q < 12800 → A3 q = 0) (hz4 : ∀ q, 64 * nw ≤ q → q < 12800 → A4 q = 0) (hi9 : R32 i9) : MG G l yX7_wire wsX7_wire 1 40 0 0 [.ref r, .int (iI i9)] w (pI (fun (x : Int) (w' : Wd) => Fr mT w w' ∧ ((RefAt G r ad w' 1 nw op sm ti sp nm nc sz ts av fi wr rm rc A1 A3 A4 A9 A10 A11 A13 A14 A15 A16 A18 A20 A25 A26 A27 A28 A30 A31 ∧ ¬ (1 ≤ i9 ∧ i9 ≤ 64)) ∨ (RefAt G r ad w' 2 nw op sm ti sp nm nc sz ts av fi wr rm rc A1 A3 A4 A9 A10 A11 A13 A14 A15 A16 A18 A20 A25 A26 A27 A28 A30 A31 ∧ (1 ≤ i9 ∧ i9 ≤ 64) ∧ (nw = 200 ∨ sm = 1)) ∨ (RefAt G r ad w' 0 (nw + 1) op sm ti sp nm nc sz ts av fi wr rm rc (upI A1 nw i9) A3 A4 A9 A10 A11 A13 A14 A15 A16 A18 A20 A25 A26 A27 A28 A30 A31 ∧ x = nw ∧ (1 ≤ i9 ∧ i9 ≤ 64) ∧ nw < 200 ∧ sm = 0)))) := by
  refine MG.of (cc := cX7_wire) (nL := 3) (ret := (some .int)) (ll := [some (.ref r), some (.int (iI i9)), none]) (by decide) rfl (Nat.le_of_ble_eq_true rfl) rfl ?_
  intro p e s m args below meth c C
  have hts := C.2.2.2.2.1
  have p66 : PutF G s m args 66 10 0 (.int) := putF_of C 10 0 tyX7 tyX7_ok nmX7 (T := TX7) (N := 33) (Cn := RX7) (ref := "TraceBookModel") rfl (by decide) (fun _ h => List.mem_cons_of_mem _ (List.mem_append_right _ (h))) (List.mem_of_getElem? (i := 3) rfl) (fun _ h => h) rfl (by decide +kernel)
  have g66 : GetF G s m args 66 10 0 := getF_of C 10 0 (T := TX7) (N := 33) (Cn := RX7) (ref := "TraceBookModel") rfl (by decide) (fun _ h => List.mem_cons_of_mem _ (List.mem_append_right _ (h))) (List.mem_of_getElem? (i := 3) rfl) (fun _ h => h)
  have g7 : GetF G s m args 7 10 1 := getF_of C 10 1 (T := TX7) (N := 33) (Cn := RX7) (ref := "TraceBookModel") rfl (by decide) (fun _ h => List.mem_cons_of_mem _ (List.mem_append_right _ (h))) (List.mem_of_getElem? (i := 4) rfl) (fun _ h => h)
  have g70 : GetF G s m args 70 10 2 := getF_of C 10 2 (T := TX7) (N := 33) (Cn := RX7) (ref := "TraceBookModel") rfl (by decide) (fun _ h => List.mem_cons_of_mem _ (List.mem_append_right _ (h))) (List.mem_of_getElem? (i := 1) rfl) (fun _ h => h)
  have p70 : PutF G s m args 70 10 2 (.int) := putF_of C 10 2 tyX7 tyX7_ok nmX7 (T := TX7) (N := 33) (Cn := RX7) (ref := "TraceBookModel") rfl (by decide) (fun _ h => List.mem_cons_of_mem _ (List.mem_append_right _ (h))) (List.mem_of_getElem? (i := 1) rfl) (fun _ h => h) rfl (by decide +kernel)
  have g13 : GetF G s m args 13 10 3 := getF_of C 10 3 (T := TX7) (N := 33) (Cn := RX7) (ref := "TraceBookModel") rfl (by decide) (fun _ h => List.mem_cons_of_mem _ (List.mem_append_right _ (h))) (List.mem_of_getElem? (i := 5) rfl) (fun _ h => h)
  have g16 : GetF G s m args 16 10 4 := getF_of C 10 4 (T := TX7) (N := 33) (Cn := RX7) (ref := "TraceBookModel") rfl (by decide) (fun _ h => List.mem_cons_of_mem _ (List.mem_append_right _ (h))) (List.mem_of_getElem? (i := 6) rfl) (fun _ h => h)
  have g73 : GetF G s m args 73 10 6 := getF_of C 10 6 (T := TX7) (N := 33) (Cn := RX7) (ref := "TraceBookModel") rfl (by decide) (fun _ h => List.mem_cons_of_mem _ (List.mem_append_right _ (h))) (List.mem_of_getElem? (i := 2) rfl) (fun _ h => h)
  refine poI (P := fun PO => V G p l e _ s m args below meth c (MQW G below args s _ _ (pI PO)) w 0 0 0 _ []) (fun PO hPO => ?_)
  obtain ⟨w0, hw0⟩ : ∃ z, z = w := ⟨_, rfl⟩
  rw [← hw0] at hPO
  have hF : Fr mT w0 w := by rw [hw0]; exact Fr.rf
  refine v_aload_n C dX7_wire_0 rfl ?_
  have J38 : ∀ q2 : Int, (q2 = 1 ∧ ¬ (1 ≤ i9 ∧ i9 ≤ 64)) ∨ (q2 = 2 ∧ (1 ≤ i9 ∧ i9 ≤ 64) ∧ (nw = 200 ∨ sm = 1)) ∨ (q2 = 0 ∧ (1 ≤ i9 ∧ i9 ≤ 64) ∧ nw < 200 ∧ sm = 0) → V G p l e { frames := 1, cells := 0, slots := 0, locals := 40 } s m args below meth c (MQW G below args s 0 0 (pI PO)) w 0 0 38 [some (.ref r), some (.int (iI i9)), none] [.int (iI q2), .ref r] := by
    intro q2 h38
    refine m_put_0 C p66 hR dX7_wire_38 (fun w hR hF9 => ?_)
    have hF := hF.tr hF9
    refine v_aload_n C dX7_wire_41 rfl ?_
    refine v_getf C g66 hR.1 rfl dX7_wire_42 ?_
    refine v_if_le C (⟨by omega, by omega⟩) (tgt := 50) dX7_wire_45 (by decide) (fun c_45 => ?_) (fun c_45 => ?_)
    · refine v_aload_n C dX7_wire_50 rfl ?_
      refine v_getf C g7 hR.1 rfl dX7_wire_51 ?_
      refine v_aload_n C dX7_wire_54 rfl ?_
      refine v_getf C g70 hR.1 rfl dX7_wire_55 ?_
      refine v_iload_n C dX7_wire_58 rfl ?_
      refine m_st_1 C hR (⟨by omega, by omega⟩) (by omega) (by omega) dX7_wire_59 (fun w hR hF9 => ?_)
      have hF := hF.tr hF9
      refine v_iconst C dX7_wire_60 ?_
      refine v_istore_n C dX7_wire_61 sl_3_2 (by decide) rfl ?_
      have L62 : ∀ (N : Nat) (w : Wd) (j : Int), (RefAt G r ad w q2 nw op sm ti sp nm nc sz ts av fi wr rm rc (upI A1 nw i9) A3 A4 A9 A10 A11 A13 A14 A15 A16 A18 A20 A25 A26 A27 A28 A30 A31) → (Fr mT w0 w) → (0 ≤ j ∧ j ≤ 64) → (64 - j).toNat < N → V G p l e { frames := 1, cells := 0, slots := 0, locals := 40 } s m args below meth c (MQW G below args s 0 0 (pI PO)) w 0 0 62 [some (.ref r), some (.int (iI i9)), some (.int (iI j))] [] := by
        intro N
        induction N with
        | zero => intro w j hR hF hj hm; exact absurd hm (Nat.not_lt_zero _)
        | succ N ih =>
          intro w j hR hF hj hm
          refine v_iload_n C dX7_wire_62 rfl ?_
          refine v_bipush C dX7_wire_63 rfl ?_
          refine v_icmp_ge C (⟨by omega, by omega⟩) (⟨by omega, by omega⟩) (tgt := 104) dX7_wire_65 (by decide) (fun c_65 => ?_) (fun c_65 => ?_)
          · refine v_aload_n C dX7_wire_104 rfl ?_
            refine v_dup C rfl dX7_wire_105 ?_
            refine v_getf C g70 hR.1 rfl dX7_wire_106 ?_
            refine v_iconst C dX7_wire_109 ?_
            refine v_iadd C dX7_wire_110 ?_
            refine m_put_2 C p70 hR dX7_wire_111 (fun w hR hF9 => ?_)
            have hF := hF.tr hF9
            refine v_aload_n C dX7_wire_114 rfl ?_
            refine v_getf C g70 hR.1 rfl dX7_wire_115 ?_
            refine v_iconst C dX7_wire_118 ?_
            refine v_isub C dX7_wire_119 ?_
            exact v_iret C rfl dX7_wire_120 (Nat.le_refl _) (Nat.le_refl _) (hPO _ _ ⟨hF, Or.inr (Or.inr ⟨(show q2 = 0 by omega) ▸ hR, by omega, by omega, by omega, by omega⟩)⟩)
          · refine v_aload_n C dX7_wire_68 rfl ?_
            refine v_getf C g13 hR.1 rfl dX7_wire_69 ?_
            refine v_bipush C dX7_wire_72 rfl ?_
            refine v_aload_n C dX7_wire_74 rfl ?_
            refine v_getf C g70 hR.1 rfl dX7_wire_75 ?_
            refine v_imul C dX7_wire_78 ?_
            refine v_iload_n C dX7_wire_79 rfl ?_
            refine v_iadd C dX7_wire_80 ?_
            refine v_iconst C dX7_wire_81 ?_
            refine m_st_3 C hR (⟨by omega, by omega⟩) (by omega) (by omega) dX7_wire_82 (fun w hR hF9 => ?_)
            have hF := hF.tr hF9
            refine v_aload_n C dX7_wire_83 rfl ?_
            refine v_getf C g16 hR.1 rfl dX7_wire_84 ?_
            refine v_bipush C dX7_wire_87 rfl ?_
            refine v_aload_n C dX7_wire_89 rfl ?_
            refine v_getf C g70 hR.1 rfl dX7_wire_90 ?_
            refine v_imul C dX7_wire_93 ?_
            refine v_iload_n C dX7_wire_94 rfl ?_
            refine v_iadd C dX7_wire_95 ?_
            refine v_iconst C dX7_wire_96 ?_
            refine m_st_4 C hR (⟨by omega, by omega⟩) (by omega) (by omega) dX7_wire_97 (fun w hR hF9 => ?_)
            have hF := hF.tr hF9
            rw [upI_same (hz3 (64 * nw + j) (by omega) (by omega)), upI_same (hz4 (64 * nw + j) (by omega) (by omega))] at hR
            refine v_iinc C dX7_wire_98 rfl sl_3_2 (by decide) rfl ?_
            refine v_goto C (tgt := 62) dX7_wire_101 (by decide) ?_
            exact ih _ _ hR hF ⟨by omega, by omega⟩ (by omega)
      exact L62 _ _ 0 hR hF ⟨by omega, by omega⟩ (Nat.lt_succ_self _)
    · refine v_iconst C dX7_wire_48 ?_
      exact v_iret C rfl dX7_wire_49 (Nat.le_refl _) (Nat.le_refl _) (hPO _ _ ⟨hF, by
          rcases h38 with ⟨rfl, h9⟩ | ⟨rfl, h9⟩ | ⟨rfl, h9⟩
          · exact Or.inl ⟨hR, h9⟩
          · exact Or.inr (Or.inl ⟨hR, h9⟩)
          · omega⟩)
  refine v_iload_n C dX7_wire_1 rfl ?_
  refine v_iconst C dX7_wire_2 ?_
  refine v_icmp_lt C (⟨by omega, by omega⟩) (⟨by omega, by omega⟩) (tgt := 12) dX7_wire_3 (by decide) (fun c_3 => ?_) (fun c_3 => ?_)
  · refine v_iconst C dX7_wire_12 ?_
    refine v_goto C (tgt := 38) dX7_wire_13 (by decide) ?_
    exact J38 _ (Or.inl ⟨rfl, by omega⟩)
  · refine v_iload_n C dX7_wire_6 rfl ?_
    refine v_bipush C dX7_wire_7 rfl ?_
    refine v_icmp_le C (⟨by omega, by omega⟩) (⟨by omega, by omega⟩) (tgt := 16) dX7_wire_9 (by decide) (fun c_9 => ?_) (fun c_9 => ?_)
    · refine v_aload_n C dX7_wire_16 rfl ?_
      refine v_getf C g70 hR.1 rfl dX7_wire_17 ?_
      refine v_sipush C dX7_wire_20 rfl ?_
      refine v_icmp_eq C (⟨by omega, by omega⟩) (⟨by omega, by omega⟩) (tgt := 33) dX7_wire_23 (by decide) (fun c_23 => ?_) (fun c_23 => ?_)
      · refine v_iconst C dX7_wire_33 ?_
        refine v_goto C (tgt := 38) dX7_wire_34 (by decide) ?_
        exact J38 _ (Or.inr (Or.inl ⟨rfl, by omega, by omega⟩))
      · refine v_aload_n C dX7_wire_26 rfl ?_
        refine v_getf C g73 hR.1 rfl dX7_wire_27 ?_
        refine v_if_eq C (⟨by omega, by omega⟩) (tgt := 37) dX7_wire_30 (by decide) (fun c_30 => ?_) (fun c_30 => ?_)
        · refine v_iconst C dX7_wire_37 ?_
          exact J38 _ (Or.inr (Or.inr ⟨rfl, by omega, by omega, by omega⟩))
        · refine v_iconst C dX7_wire_33 ?_
          refine v_goto C (tgt := 38) dX7_wire_34 (by decide) ?_
          exact J38 _ (Or.inr (Or.inl ⟨rfl, by omega, by omega⟩))
    · refine v_iconst C dX7_wire_12 ?_
      refine v_goto C (tgt := 38) dX7_wire_13 (by decide) ?_
      exact J38 _ (Or.inl ⟨rfl, by omega⟩)
