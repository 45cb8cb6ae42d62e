theorem sj_6_3 {x0 x1 x2 x3 x4 x5 : Option Value} {v : Value} : stJ [x0, x1, x2, x3, x4, x5] 3 v = [x0, x1, x2, some v, none, x5] := rfl
/-! a tape read count by count -/
def scE (T : Int → Int) (N : Int) : Nat → Int → Int
  | 0, a => a
  | n + 1, a => if a < N ∧ 127 < T a then scE T N n (a + 1) else a
def lastP (T : Int → Int) (N a : Int) : Int := scE T N (N - a).toNat a
def valR (T : Int → Int) : Nat → Int → Int
  | 0, _ => 0
  | n + 1, a => T a % 128 + 128 * valR T n (a + 1)
/-- the place of the fault of the count at a; -1: none -/
def rcF (T : Int → Int) (N a : Int) : Int := if 9 < lastP T N a - a + 1 ∧ a + 9 < N then a else if lastP T N a = N then N else if (1 < lastP T N a - a + 1 ∧ T (lastP T N a) = 0) ∨ 4611686018427387904 ≤ valR T (lastP T N a - a + 1).toNat a then a else -1
def rcV (T : Int → Int) (N a : Int) : Int := valR T (lastP T N a - a + 1).toNat a
def rcN (T : Int → Int) (N a : Int) : Int := lastP T N a + 1
theorem scE_bd (T : Int → Int) (N : Int) : ∀ (n : Nat) (a : Int), a + n = N → a ≤ scE T N n a ∧ scE T N n a ≤ N
  | 0, a, h => by simp only [scE]; omega
  | n + 1, a, h => by
    unfold scE
    by_cases q : a < N ∧ 127 < T a
    · rw [if_pos q]; have := scE_bd T N n (a + 1) (by omega); omega
    · rw [if_neg q]; omega
theorem lastP_bd {T : Int → Int} {N a : Int} (h : a ≤ N) : a ≤ lastP T N a ∧ lastP T N a ≤ N := scE_bd T N _ a (by omega)
theorem scE_go {T : Int → Int} {N a : Int} (h1 : a < N) (h2 : 127 < T a) : scE T N (N - a).toNat a = scE T N (N - (a + 1)).toNat (a + 1) := by
  rw [show (N - a).toNat = (N - (a + 1)).toNat + 1 by omega, scE, if_pos ⟨h1, h2⟩]
theorem scE_stop {T : Int → Int} {N a : Int} (h : ¬ (a < N ∧ 127 < T a)) : scE T N (N - a).toNat a = a := by
  by_cases q : N - a ≤ 0
  · rw [show (N - a).toNat = 0 by omega]; rfl
  · rw [show (N - a).toNat = (N - a - 1).toNat + 1 by omega, scE, if_neg h]
theorem rcF_eq {T : Int → Int} {N a e : Int} (h : lastP T N a = e) : rcF T N a = if 9 < e - a + 1 ∧ a + 9 < N then a else if e = N then N else if (1 < e - a + 1 ∧ T e = 0) ∨ 4611686018427387904 ≤ valR T (e - a + 1).toNat a then a else -1 := by subst h; rfl
theorem valR_bd (T : Int → Int) : ∀ (n : Nat) (a : Int), 0 ≤ valR T n a ∧ valR T n a < 128 ^ n
  | 0, a => by simp [valR]
  | n + 1, a => by
    have h := valR_bd T n (a + 1)
    have e : (128 : Int) ^ (n + 1) = 128 ^ n * 128 := Int.pow_succ _ _
    unfold valR
    omega
theorem valR_9 {T : Int → Int} {n : Nat} {a : Int} (h : n ≤ 9) : 0 ≤ valR T n a ∧ valR T n a < 9223372036854775808 := by
  have h1 := valR_bd T n a
  have h2 : (128 : Int) ^ n ≤ 128 ^ 9 := by exact_mod_cast Nat.pow_le_pow_right (by omega : 0 < 128) h
  have h3 : (128 : Int) ^ 9 = 9223372036854775808 := by decide +kernel
  omega
theorem rcF_bd {T : Int → Int} {N a : Int} (h0 : 0 ≤ a) (h : a ≤ N) : -1 ≤ rcF T N a ∧ rcF T N a ≤ N := by
  unfold rcF
  split
  · omega
  · split
    · omega
    · split <;> omega
/-- a good count: where it ends, how large it is -/
theorem rc_ok {T : Int → Int} {N a : Int} (h0 : 0 ≤ a) (h : a ≤ N) (hf : rcF T N a = -1) : a < rcN T N a ∧ rcN T N a ≤ N ∧ 0 ≤ rcV T N a ∧ rcV T N a < 4611686018427387904 := by
  have hb := lastP_bd (T := T) h
  have hv := valR_bd T (lastP T N a - a + 1).toNat a
  unfold rcF at hf
  unfold rcN rcV
  by_cases q1 : 9 < lastP T N a - a + 1 ∧ a + 9 < N
  · rw [if_pos q1] at hf; omega
  · rw [if_neg q1] at hf
    by_cases q2 : lastP T N a = N
    · rw [if_pos q2] at hf; omega
    · rw [if_neg q2] at hf
      by_cases q3 : (1 < lastP T N a - a + 1 ∧ T (lastP T N a) = 0) ∨ 4611686018427387904 ≤ valR T (lastP T N a - a + 1).toNat a
      · rw [if_pos q3] at hf; omega
      · omega
theorem lI_norm (x : Int) : ∃ z : Int, lI x = lI z ∧ R64 z ∧ (R64 x → z = x) := by
  refine ⟨(lI x).toInt, lI_of _, R64_of _, fun h => lI_t h⟩
theorem upI_up {f : Int → Int} {i x y : Int} : upI (upI f i x) i y = upI f i y := funext fun j => by
  unfold upI
  by_cases h : j = i
  · rw [if_pos h, if_pos h]
  · rw [if_neg h, if_neg h, if_neg h]
/-- values put at places -/
def sfold (S : Int → Int) : List (Int × Int) → (Int → Int)
  | [] => S
  | q :: l => sfold (upI S q.1 q.2) l
def pch (T : Int → Int) (N nw : Int) (A1 : Int → Int) (n a p : Int) (S : Int → Int) : Int × Int × List (Int × Int) :=
  if n ≤ 0 then (-1, a, [])
  else if rcF T N a ≠ -1 then (rcF T N a, a, [])
  else if nw ≤ rcV T N a + (if p < 0 then 0 else p / 64) then (a, a, [])
  else if rcF T N (rcN T N a) ≠ -1 then (rcF T N (rcN T N a), a, [])
  else if ¬ (rcV T N (rcN T N a) / 16 < A1 (rcV T N a + (if p < 0 then 0 else p / 64)) ∧ rcV T N (rcN T N a) % 16 < 9 ∧ p < 64 * (rcV T N a + (if p < 0 then 0 else p / 64)) + rcV T N (rcN T N a) / 16 ∧ S (64 * (rcV T N a + (if p < 0 then 0 else p / 64)) + rcV T N (rcN T N a) / 16) ≠ rcV T N (rcN T N a) % 16) then (rcN T N a, a, [])
  else if h : a < rcN T N (rcN T N a) ∧ a < N then
    ((pch T N nw A1 (n - 1) (rcN T N (rcN T N a)) (64 * (rcV T N a + (if p < 0 then 0 else p / 64)) + rcV T N (rcN T N a) / 16) (upI S (64 * (rcV T N a + (if p < 0 then 0 else p / 64)) + rcV T N (rcN T N a) / 16) (rcV T N (rcN T N a) % 16))).1,
     (pch T N nw A1 (n - 1) (rcN T N (rcN T N a)) (64 * (rcV T N a + (if p < 0 then 0 else p / 64)) + rcV T N (rcN T N a) / 16) (upI S (64 * (rcV T N a + (if p < 0 then 0 else p / 64)) + rcV T N (rcN T N a) / 16) (rcV T N (rcN T N a) % 16))).2.1,
     (64 * (rcV T N a + (if p < 0 then 0 else p / 64)) + rcV T N (rcN T N a) / 16, rcV T N (rcN T N a) % 16) ::
     (pch T N nw A1 (n - 1) (rcN T N (rcN T N a)) (64 * (rcV T N a + (if p < 0 then 0 else p / 64)) + rcV T N (rcN T N a) / 16) (upI S (64 * (rcV T N a + (if p < 0 then 0 else p / 64)) + rcV T N (rcN T N a) / 16) (rcV T N (rcN T N a) % 16))).2.2)
  else (-2, a, [])
termination_by (N - a).toNat
decreasing_by all_goals omega
theorem pch_0 {T : Int → Int} {N nw n a p : Int} {A1 S : Int → Int} (h : n ≤ 0) : pch T N nw A1 n a p S = (-1, a, []) := by rw [pch, if_pos h]
theorem pch_f1 {T : Int → Int} {N nw n a p : Int} {A1 S : Int → Int} (h : ¬ n ≤ 0) (h1 : rcF T N a ≠ -1) : (pch T N nw A1 n a p S).1 = rcF T N a := by rw [pch, if_neg h, if_pos h1]
theorem pch_f2 {T : Int → Int} {N nw n a p x q : Int} {A1 S : Int → Int} (h : ¬ n ≤ 0) (h1 : rcF T N a = -1) (hx : x = rcV T N a) (hq : q = (if p < 0 then 0 else p / 64)) (h2 : nw ≤ x + q) : (pch T N nw A1 n a p S).1 = a := by
  subst hx; subst hq
  rw [pch, if_neg h, if_neg (fun g => g h1), if_pos h2]
theorem pch_f3 {T : Int → Int} {N nw n a p x q b : Int} {A1 S : Int → Int} (h : ¬ n ≤ 0) (h1 : rcF T N a = -1) (hx : x = rcV T N a) (hq : q = (if p < 0 then 0 else p / 64)) (hb : b = rcN T N a) (h2 : x + q < nw) (h3 : rcF T N b ≠ -1) : (pch T N nw A1 n a p S).1 = rcF T N b := by
  subst hx; subst hq; subst hb
  rw [pch, if_neg h, if_neg (fun g => g h1), if_neg (by omega), if_pos h3]
theorem pch_f4 {T : Int → Int} {N nw n a p x q b y : Int} {A1 S : Int → Int} (h : ¬ n ≤ 0) (h1 : rcF T N a = -1) (hx : x = rcV T N a) (hq : q = (if p < 0 then 0 else p / 64)) (hb : b = rcN T N a) (hy : y = rcV T N b) (h2 : x + q < nw) (h3 : rcF T N b = -1)
    (h4 : ¬ (y / 16 < A1 (x + q) ∧ y % 16 < 9 ∧ p < 64 * (x + q) + y / 16 ∧ S (64 * (x + q) + y / 16) ≠ y % 16)) : (pch T N nw A1 n a p S).1 = b := by
  subst hx; subst hq; subst hb; subst hy
  rw [pch, if_neg h, if_neg (fun g => g h1), if_neg (by omega), if_neg (fun g => g h3), if_pos h4]
theorem pch_go {T : Int → Int} {N nw n a p x q b y d : Int} {A1 S : Int → Int} (h0 : 0 ≤ a) (hN : a ≤ N) (h : ¬ n ≤ 0) (h1 : rcF T N a = -1) (hx : x = rcV T N a) (hq : q = (if p < 0 then 0 else p / 64)) (hb : b = rcN T N a) (hy : y = rcV T N b) (hd : d = rcN T N b) (h2 : x + q < nw) (h3 : rcF T N b = -1)
    (h4 : y / 16 < A1 (x + q) ∧ y % 16 < 9 ∧ p < 64 * (x + q) + y / 16 ∧ S (64 * (x + q) + y / 16) ≠ y % 16) :
    pch T N nw A1 n a p S = ((pch T N nw A1 (n - 1) d (64 * (x + q) + y / 16) (upI S (64 * (x + q) + y / 16) (y % 16))).1, (pch T N nw A1 (n - 1) d (64 * (x + q) + y / 16) (upI S (64 * (x + q) + y / 16) (y % 16))).2.1, (64 * (x + q) + y / 16, y % 16) :: (pch T N nw A1 (n - 1) d (64 * (x + q) + y / 16) (upI S (64 * (x + q) + y / 16) (y % 16))).2.2) := by
  have r1 := rc_ok h0 hN h1
  subst hx; subst hq; subst hb; subst hy; subst hd
  have r2 := rc_ok (by omega) r1.2.1 h3
  rw [pch, if_neg h, if_neg (fun g => g h1), if_neg (by omega), if_neg (fun g => g h3), if_neg (fun g => g h4), dif_pos ⟨by omega, by omega⟩]
/-- a moment's end: its number of changes, and they -/
def pmT (T : Int → Int) (N nw : Int) (A1 : Int → Int) (a t s : Int) (S : Int → Int) : Int × Int × Int × Int × List (Int × Int) :=
  if rcF T N a ≠ -1 then (rcF T N a, a, t, s, [])
  else if rcV T N a = 0 then (a, a, t, s, [])
  else ((pch T N nw A1 (rcV T N a) (rcN T N a) (-1) S).1, (pch T N nw A1 (rcV T N a) (rcN T N a) (-1) S).2.1, t, s, (pch T N nw A1 (rcV T N a) (rcN T N a) (-1) S).2.2)
/-- a moment -/
def pmo (T : Int → Int) (N nw : Int) (A1 : Int → Int) (a t s : Int) (S : Int → Int) : Int × Int × Int × Int × List (Int × Int) :=
  if rcF T N a ≠ -1 then (rcF T N a, a, t, s, [])
  else if rcV T N a / 2 = 0 ∨ 1152921504606846976 ≤ (if rcV T N a % 2 = 1 then t else t + rcV T N a / 2) ∨ 1152921504606846976 ≤ (if rcV T N a % 2 = 1 then s + rcV T N a / 2 else s) then (a, a, t, s, [])
  else if rcV T N a % 2 = 1 then pmT T N nw A1 (rcN T N a) t (s + rcV T N a / 2) S
  else if rcF T N (rcN T N a) ≠ -1 then (rcF T N (rcN T N a), a, t, s, [])
  else if 1152921504606846976 ≤ rcV T N (rcN T N a) then (rcN T N a, a, t, s, [])
  else pmT T N nw A1 (rcN T N (rcN T N a)) (t + rcV T N a / 2) (rcV T N (rcN T N a)) S
set_option maxRecDepth 100000 in
set_option maxHeartbeats 8000000 in
theorem c_X7_count {G : GG} {l : Launch} {r : Nat} {ad : Nat → Nat} {w : Wd} {c0 nw op sm ti sp nm nc sz ts av fi wr rm rc : Int} {A1 A3 A4 A9 A10 A11 A13 A14 A15 A16 A18 A20 A25 A26 A27 A28 A30 A31 : Int → Int}  (hR : RefAt G r ad w c0 nw op sm ti sp nm nc sz ts av fi wr rm rc A1 A3 A4 A9 A10 A11 A13 A14 A15 A16 A18 A20 A25 A26 A27 A28 A30 A31) (h0 : 0 ≤ av ∧ av ≤ ts ∧ ts ≤ 60000) (hT : ∀ q, 0 ≤ q → q < ts → 0 ≤ A20 q ∧ A20 q ≤ 255) (hw1 : wr = -1) : MG G l yX7_count wsX7_count 2 80 0 0 [.ref r] w (pL (fun (x : Int) (w' : Wd) => Fr mT w w' ∧ 0 ≤ x ∧ x < 9223372036854775808 ∧ ∃ av2 : Int, RefAt G r ad w' c0 nw op sm ti sp nm nc sz ts av2 av (rcF A20 ts av) rm rc A1 A3 A4 A9 A10 A11 A13 A14 A15 A16 A18 A20 A25 A26 A27 A28 A30 A31 ∧ (rcF A20 ts av = -1 → x = rcV A20 ts av ∧ av2 = rcN A20 ts av) ∧ (0 ≤ av2 ∧ av2 ≤ ts))) := by
  refine MG.of (cc := cX7_count) (nL := 6) (ret := (some .long)) (ll := [some (.ref r), none, none, none, none, none]) (by decide) rfl (Nat.le_of_ble_eq_true rfl) rfl ?_
  intro p e s m args below meth c C
  have hts := C.2.2.2.2.1
  have g157 : GetF G s m args 157 10 22 := getF_of C 10 22 (T := TX7) (N := 33) (Cn := RX7) (ref := "TraceBookModel") rfl (by decide) (fun _ h => List.mem_cons_of_mem _ (List.mem_append_right _ (h))) (List.mem_of_getElem? (i := 1) rfl) (fun _ h => h)
  have p154 : PutF G s m args 154 10 23 (.int) := putF_of C 10 23 tyX7 tyX7_ok nmX7 (T := TX7) (N := 33) (Cn := RX7) (ref := "TraceBookModel") rfl (by decide) (fun _ h => List.mem_cons_of_mem _ (List.mem_append_right _ (h))) (List.mem_of_getElem? (i := 2) rfl) (fun _ h => h) rfl (by decide +kernel)
  have g148 : GetF G s m args 148 10 21 := getF_of C 10 21 (T := TX7) (N := 33) (Cn := RX7) (ref := "TraceBookModel") rfl (by decide) (fun _ h => List.mem_cons_of_mem _ (List.mem_append_right _ (h))) (List.mem_of_getElem? (i := 3) rfl) (fun _ h => h)
  have p157 : PutF G s m args 157 10 22 (.int) := putF_of C 10 22 tyX7 tyX7_ok nmX7 (T := TX7) (N := 33) (Cn := RX7) (ref := "TraceBookModel") rfl (by decide) (fun _ h => List.mem_cons_of_mem _ (List.mem_append_right _ (h))) (List.mem_of_getElem? (i := 1) rfl) (fun _ h => h) rfl (by decide +kernel)
  have g45 : GetF G s m args 45 10 20 := getF_of C 10 20 (T := TX7) (N := 33) (Cn := RX7) (ref := "TraceBookModel") rfl (by decide) (fun _ h => List.mem_cons_of_mem _ (List.mem_append_right _ (h))) (List.mem_of_getElem? (i := 4) rfl) (fun _ h => h)
  have g151 : GetF G s m args 151 10 24 := getF_of C 10 24 (T := TX7) (N := 33) (Cn := RX7) (ref := "TraceBookModel") rfl (by decide) (fun _ h => List.mem_cons_of_mem _ (List.mem_append_right _ (h))) (List.mem_of_getElem? (i := 5) rfl) (fun _ h => h)
  have p151 : PutF G s m args 151 10 24 (.int) := putF_of C 10 24 tyX7 tyX7_ok nmX7 (T := TX7) (N := 33) (Cn := RX7) (ref := "TraceBookModel") rfl (by decide) (fun _ h => List.mem_cons_of_mem _ (List.mem_append_right _ (h))) (List.mem_of_getElem? (i := 5) rfl) (fun _ h => h) rfl (by decide +kernel)
  refine poI (P := fun PO => V G p l e _ s m args below meth c (MQW G below args s _ _ (pL PO)) w 0 0 0 _ []) (fun PO hPO => ?_)
  obtain ⟨w0, hw0⟩ : ∃ z, z = w := ⟨_, rfl⟩
  rw [← hw0] at hPO
  have hF : Fr mT w0 w := by rw [hw0]; exact Fr.rf
  refine v_aload_n C dX7_count_0 rfl ?_
  refine v_aload_n C dX7_count_1 rfl ?_
  refine v_getf C g157 hR.1 rfl dX7_count_2 ?_
  refine m_put_23 C p154 hR dX7_count_5 (fun w hR hF9 => ?_)
  have hF := hF.tr hF9
  refine v_aload_n C dX7_count_8 rfl ?_
  refine v_getf C g157 hR.1 rfl dX7_count_9 ?_
  refine v_istore_n C dX7_count_12 sl_6_1 (by decide) rfl ?_
  have L13 : ∀ (N : Nat) (i : Int), (av ≤ i ∧ i ≤ ts) → (scE A20 ts (ts - i).toNat i = lastP A20 ts av) → (ts - i).toNat < N → V G p l e { frames := 2, cells := 0, slots := 0, locals := 80 } s m args below meth c (MQW G below args s 0 0 (pL PO)) w 0 0 13 [some (.ref r), some (.int (iI i)), none, none, none, none] [] := by
    intro N
    induction N with
    | zero => intro i hi hi2 hm; exact absurd hm (Nat.not_lt_zero _)
    | succ N ih =>
      intro i hi hi2 hm
      refine v_iload_n C dX7_count_13 rfl ?_
      refine v_aload_n C dX7_count_14 rfl ?_
      refine v_getf C g148 hR.1 rfl dX7_count_15 ?_
      refine v_icmp_ge C (⟨by omega, by omega⟩) (⟨by omega, by omega⟩) (tgt := 38) dX7_count_18 (by decide) (fun c_18 => ?_) (fun c_18 => ?_)
      · have he : lastP A20 ts av = i := by rw [← hi2]; exact scE_stop (fun h9 => by omega)
        refine v_iload_n C dX7_count_38 rfl ?_
        refine v_aload_n C dX7_count_39 rfl ?_
        refine v_getf C g157 hR.1 rfl dX7_count_40 ?_
        refine v_isub C dX7_count_43 ?_
        refine v_iconst C dX7_count_44 ?_
        refine v_iadd C dX7_count_45 ?_
        refine v_istore_n C dX7_count_46 sl_6_2 (by decide) rfl ?_
        refine v_iload_n C dX7_count_47 rfl ?_
        refine v_bipush C dX7_count_48 rfl ?_
        refine v_icmp_le C (⟨by omega, by omega⟩) (⟨by omega, by omega⟩) (tgt := 73) dX7_count_50 (by decide) (fun c_50 => ?_) (fun c_50 => ?_)
        · refine v_iload_n C dX7_count_73 rfl ?_
          refine v_aload_n C dX7_count_74 rfl ?_
          refine v_getf C g148 hR.1 rfl dX7_count_75 ?_
          refine v_icmp_ne C (⟨by omega, by omega⟩) (⟨by omega, by omega⟩) (tgt := 106) dX7_count_78 (by decide) (fun c_78 => ?_) (fun c_78 => ?_)
          · refine v_lconst C (v := 0) dX7_count_106 rfl ?_
            refine v_lstore_n C dX7_count_107 sj_6_3 (by decide) (Nat.le_of_ble_eq_true rfl) rfl ?_
            refine v_iload_n C dX7_count_108 rfl ?_
            refine v_istore C dX7_count_109 sl_6_5 (by decide) rfl ?_
            have L111 : ∀ (N : Nat) (v j : Int), (av - 1 ≤ j ∧ j ≤ i) → (v = valR A20 (i - j).toNat (j + 1)) → (j - av + 1).toNat < N → V G p l e { frames := 2, cells := 0, slots := 0, locals := 80 } s m args below meth c (MQW G below args s 0 0 (pL PO)) w 0 0 111 [some (.ref r), some (.int (iI i)), some (.int (iI (i - av + 1))), some (.long (lI v)), none, some (.int (iI j))] [] := by
              intro N
              induction N with
              | zero => intro v j hj hv hm; exact absurd hm (Nat.not_lt_zero _)
              | succ N ih =>
                intro v j hj hv hm
                refine v_iload C dX7_count_111 rfl ?_
                refine v_aload_n C dX7_count_113 rfl ?_
                refine v_getf C g157 hR.1 rfl dX7_count_114 ?_
                refine v_icmp_lt C (⟨by omega, by omega⟩) (⟨by omega, by omega⟩) (tgt := 145) dX7_count_117 (by decide) (fun c_117 => ?_) (fun c_117 => ?_)
                · have hjv : j = av - 1 := by omega
                  have hv2 : v = valR A20 (i - av + 1).toNat av := by rw [hv, hjv, show i - (av - 1) = i - av + 1 by omega, show av - 1 + 1 = av by omega]
                  have hv9 := valR_9 (T := A20) (n := (i - av + 1).toNat) (a := av) (by omega)
                  rw [← hv2] at hv9
                  refine v_iload_n C dX7_count_145 rfl ?_
                  refine v_iconst C dX7_count_146 ?_
                  refine v_icmp_le C (⟨by omega, by omega⟩) (⟨by omega, by omega⟩) (tgt := 159) dX7_count_147 (by decide) (fun c_147 => ?_) (fun c_147 => ?_)
                  · refine v_lload_n C dX7_count_159 rfl ?_
                    refine v_ldc2 C (v := 4611686018427387904) (List.mem_of_getElem? (i := 7) rfl) (by decide +kernel) dX7_count_160 ?_
                    refine v_lcmp_lt C (⟨by omega, by omega⟩) (⟨by omega, by omega⟩) (tgt := 171) dX7_count_163 dX7_count_164 (by decide) (fun c_163 => ?_) (fun c_163 => ?_)
                    · refine v_aload_n C dX7_count_171 rfl ?_
                      refine v_iload_n C dX7_count_172 rfl ?_
                      refine v_iconst C dX7_count_173 ?_
                      refine v_iadd C dX7_count_174 ?_
                      refine m_put_22 C p157 hR dX7_count_175 (fun w hR hF9 => ?_)
                      have hF := hF.tr hF9
                      refine v_lload_n C dX7_count_178 rfl ?_
                      exact v_lret C rfl dX7_count_179 (Nat.le_refl _) (Nat.le_refl _) (hPO _ _ ⟨hF, by omega, by omega, _, by rw [rcF_eq he, if_neg (by omega), if_neg (by omega), if_neg (by omega), ← hw1]; exact hR, fun q => ⟨by rw [rcV, he]; exact hv2, by rw [rcN, he]⟩, by omega⟩)
                    · refine v_aload_n C dX7_count_167 rfl ?_
                      refine v_callVv C (q := (RX7, TX7, 33)) (As := []) (rest := []) (c_X7_fail hR ⟨by omega, by omega⟩) (cwV 0 hts gX7_count_X7_fail rfl rfl rfl (by decide +kernel) ⟨Nat.le_of_ble_eq_true rfl, Nat.le_of_ble_eq_true rfl⟩) hR.1 rfl rfl rfl (Nat.le_of_ble_eq_true rfl) dX7_count_168 (Nat.le_of_ble_eq_true rfl) (Nat.le_of_ble_eq_true rfl) (fun w hp => ?_)
                      obtain ⟨hR, hF9⟩ := hp
                      have hF := hF.tr hF9
                      refine v_wide (k' := 0) (z' := 0) (Nat.le_refl _) (Nat.le_refl _) ?_
                      refine v_aload_n C dX7_count_171 rfl ?_
                      refine v_iload_n C dX7_count_172 rfl ?_
                      refine v_iconst C dX7_count_173 ?_
                      refine v_iadd C dX7_count_174 ?_
                      refine m_put_22 C p157 hR dX7_count_175 (fun w hR hF9 => ?_)
                      have hF := hF.tr hF9
                      refine v_lload_n C dX7_count_178 rfl ?_
                      exact v_lret C rfl dX7_count_179 (Nat.le_refl _) (Nat.le_refl _) (hPO _ _ ⟨hF, by omega, by omega, _, by rw [rcF_eq he, if_neg (by omega), if_neg (by omega), if_pos (by omega)]; rw [if_pos hw1] at hR; exact hR, fun q => by rw [rcF_eq he, if_neg (by omega), if_neg (by omega), if_pos (by omega)] at q; omega, by omega⟩)
                  · refine v_aload_n C dX7_count_150 rfl ?_
                    refine v_getf C g45 hR.1 rfl dX7_count_151 ?_
                    refine v_iload_n C dX7_count_154 rfl ?_
                    refine v_iald C hR.a20 (⟨by omega, by omega⟩) (by omega) (by omega) dX7_count_155 ?_
                    refine v_if_eq C (⟨by have := hT i (by omega) (by omega); omega, by have := hT i (by omega) (by omega); omega⟩) (tgt := 167) dX7_count_156 (by decide) (fun c_156 => ?_) (fun c_156 => ?_)
                    · refine v_aload_n C dX7_count_167 rfl ?_
                      refine v_callVv C (q := (RX7, TX7, 33)) (As := []) (rest := []) (c_X7_fail hR ⟨by omega, by omega⟩) (cwV 0 hts gX7_count_X7_fail rfl rfl rfl (by decide +kernel) ⟨Nat.le_of_ble_eq_true rfl, Nat.le_of_ble_eq_true rfl⟩) hR.1 rfl rfl rfl (Nat.le_of_ble_eq_true rfl) dX7_count_168 (Nat.le_of_ble_eq_true rfl) (Nat.le_of_ble_eq_true rfl) (fun w hp => ?_)
                      obtain ⟨hR, hF9⟩ := hp
                      have hF := hF.tr hF9
                      refine v_wide (k' := 0) (z' := 0) (Nat.le_refl _) (Nat.le_refl _) ?_
                      refine v_aload_n C dX7_count_171 rfl ?_
                      refine v_iload_n C dX7_count_172 rfl ?_
                      refine v_iconst C dX7_count_173 ?_
                      refine v_iadd C dX7_count_174 ?_
                      refine m_put_22 C p157 hR dX7_count_175 (fun w hR hF9 => ?_)
                      have hF := hF.tr hF9
                      refine v_lload_n C dX7_count_178 rfl ?_
                      exact v_lret C rfl dX7_count_179 (Nat.le_refl _) (Nat.le_refl _) (hPO _ _ ⟨hF, by omega, by omega, _, by rw [rcF_eq he, if_neg (by omega), if_neg (by omega), if_pos (by omega)]; rw [if_pos hw1] at hR; exact hR, fun q => by rw [rcF_eq he, if_neg (by omega), if_neg (by omega), if_pos (by omega)] at q; omega, by omega⟩)
                    · refine v_lload_n C dX7_count_159 rfl ?_
                      refine v_ldc2 C (v := 4611686018427387904) (List.mem_of_getElem? (i := 7) rfl) (by decide +kernel) dX7_count_160 ?_
                      refine v_lcmp_lt C (⟨by omega, by omega⟩) (⟨by omega, by omega⟩) (tgt := 171) dX7_count_163 dX7_count_164 (by decide) (fun c_163 => ?_) (fun c_163 => ?_)
                      · refine v_aload_n C dX7_count_171 rfl ?_
                        refine v_iload_n C dX7_count_172 rfl ?_
                        refine v_iconst C dX7_count_173 ?_
                        refine v_iadd C dX7_count_174 ?_
                        refine m_put_22 C p157 hR dX7_count_175 (fun w hR hF9 => ?_)
                        have hF := hF.tr hF9
                        refine v_lload_n C dX7_count_178 rfl ?_
                        exact v_lret C rfl dX7_count_179 (Nat.le_refl _) (Nat.le_refl _) (hPO _ _ ⟨hF, by omega, by omega, _, by rw [rcF_eq he, if_neg (by omega), if_neg (by omega), if_neg (by omega), ← hw1]; exact hR, fun q => ⟨by rw [rcV, he]; exact hv2, by rw [rcN, he]⟩, by omega⟩)
                      · refine v_aload_n C dX7_count_167 rfl ?_
                        refine v_callVv C (q := (RX7, TX7, 33)) (As := []) (rest := []) (c_X7_fail hR ⟨by omega, by omega⟩) (cwV 0 hts gX7_count_X7_fail rfl rfl rfl (by decide +kernel) ⟨Nat.le_of_ble_eq_true rfl, Nat.le_of_ble_eq_true rfl⟩) hR.1 rfl rfl rfl (Nat.le_of_ble_eq_true rfl) dX7_count_168 (Nat.le_of_ble_eq_true rfl) (Nat.le_of_ble_eq_true rfl) (fun w hp => ?_)
                        obtain ⟨hR, hF9⟩ := hp
                        have hF := hF.tr hF9
                        refine v_wide (k' := 0) (z' := 0) (Nat.le_refl _) (Nat.le_refl _) ?_
                        refine v_aload_n C dX7_count_171 rfl ?_
                        refine v_iload_n C dX7_count_172 rfl ?_
                        refine v_iconst C dX7_count_173 ?_
                        refine v_iadd C dX7_count_174 ?_
                        refine m_put_22 C p157 hR dX7_count_175 (fun w hR hF9 => ?_)
                        have hF := hF.tr hF9
                        refine v_lload_n C dX7_count_178 rfl ?_
                        exact v_lret C rfl dX7_count_179 (Nat.le_refl _) (Nat.le_refl _) (hPO _ _ ⟨hF, by omega, by omega, _, by rw [rcF_eq he, if_neg (by omega), if_neg (by omega), if_pos (by omega)]; rw [if_pos hw1] at hR; exact hR, fun q => by rw [rcF_eq he, if_neg (by omega), if_neg (by omega), if_pos (by omega)] at q; omega, by omega⟩)
                · refine v_ldc2 C (v := 128) (List.mem_of_getElem? (i := 6) rfl) (by decide +kernel) dX7_count_120 ?_
                  refine v_lload_n C dX7_count_123 rfl ?_
                  refine v_lmul C dX7_count_124 ?_
                  refine v_aload_n C dX7_count_125 rfl ?_
                  refine v_getf C g45 hR.1 rfl dX7_count_126 ?_
                  refine v_iload C dX7_count_129 rfl ?_
                  refine v_iald C hR.a20 (⟨by omega, by omega⟩) (by omega) (by omega) dX7_count_131 ?_
                  refine v_sipush C dX7_count_132 rfl ?_
                  refine v_irem C (⟨by have := hT j (by omega) (by omega); omega, by have := hT j (by omega) (by omega); omega⟩) (by have := hT j (by omega) (by omega); omega) (⟨by omega, by omega⟩) (by omega) dX7_count_135 ?_
                  refine v_i2l C (⟨by omega, by omega⟩) dX7_count_136 ?_
                  refine v_ladd C dX7_count_137 ?_
                  refine v_lstore_n C dX7_count_138 sj_6_3 (by decide) (Nat.le_of_ble_eq_true rfl) rfl ?_
                  refine v_iinc C dX7_count_139 rfl sl_6_5 (by decide) rfl ?_
                  refine v_goto C (tgt := 111) dX7_count_142 (by decide) ?_
                  exact ih _ (j + -1) ⟨by omega, by omega⟩ (by rw [hv, show (i - (j + -1)).toNat = (i - j).toNat + 1 by omega, valR, show j + -1 + 1 = j by omega]; omega) (by omega)
            exact L111 _ 0 i ⟨by omega, by omega⟩ (by rw [Int.sub_self]; rfl) (Nat.lt_succ_self _)
          · refine v_aload_n C dX7_count_81 rfl ?_
            refine v_aload_n C dX7_count_82 rfl ?_
            refine v_getf C g151 hR.1 rfl dX7_count_83 ?_
            refine v_iconst C dX7_count_86 ?_
            refine v_icmp_ne C (⟨by omega, by omega⟩) (⟨by omega, by omega⟩) (tgt := 97) dX7_count_87 (by decide) (fun c_87 => ?_) (fun c_87 => ?_)
            · exact absurd c_87 (by omega)
            · refine v_aload_n C dX7_count_90 rfl ?_
              refine v_getf C g148 hR.1 rfl dX7_count_91 ?_
              refine v_goto C (tgt := 101) dX7_count_94 (by decide) ?_
              refine m_put_24 C p151 hR dX7_count_101 (fun w hR hF9 => ?_)
              have hF := hF.tr hF9
              refine v_lconst C (v := 0) dX7_count_104 rfl ?_
              exact v_lret C rfl dX7_count_105 (Nat.le_refl _) (Nat.le_refl _) (hPO _ _ ⟨hF, by omega, by omega, _, by rw [rcF_eq he, if_neg (by omega), if_pos (by omega)]; exact hR, fun q => by rw [rcF_eq he, if_neg (by omega), if_pos (by omega)] at q; omega, by omega⟩)
        · refine v_aload_n C dX7_count_53 rfl ?_
          refine v_getf C g157 hR.1 rfl dX7_count_54 ?_
          refine v_bipush C dX7_count_57 rfl ?_
          refine v_iadd C dX7_count_59 ?_
          refine v_aload_n C dX7_count_60 rfl ?_
          refine v_getf C g148 hR.1 rfl dX7_count_61 ?_
          refine v_icmp_ge C (⟨by omega, by omega⟩) (⟨by omega, by omega⟩) (tgt := 73) dX7_count_64 (by decide) (fun c_64 => ?_) (fun c_64 => ?_)
          · refine v_iload_n C dX7_count_73 rfl ?_
            refine v_aload_n C dX7_count_74 rfl ?_
            refine v_getf C g148 hR.1 rfl dX7_count_75 ?_
            refine v_icmp_ne C (⟨by omega, by omega⟩) (⟨by omega, by omega⟩) (tgt := 106) dX7_count_78 (by decide) (fun c_78 => ?_) (fun c_78 => ?_)
            · refine v_lconst C (v := 0) dX7_count_106 rfl ?_
              refine v_lstore_n C dX7_count_107 sj_6_3 (by decide) (Nat.le_of_ble_eq_true rfl) rfl ?_
              refine v_iload_n C dX7_count_108 rfl ?_
              refine v_istore C dX7_count_109 sl_6_5 (by decide) rfl ?_
              have L111 : ∀ (N : Nat) (v j : Int), (av - 1 ≤ j ∧ j ≤ i) → (v = valR A20 (i - j).toNat (j + 1)) → (j - av + 1).toNat < N → V G p l e { frames := 2, cells := 0, slots := 0, locals := 80 } s m args below meth c (MQW G below args s 0 0 (pL PO)) w 0 0 111 [some (.ref r), some (.int (iI i)), some (.int (iI (i - av + 1))), some (.long (lI v)), none, some (.int (iI j))] [] := by
                intro N
                induction N with
                | zero => intro v j hj hv hm; exact absurd hm (Nat.not_lt_zero _)
                | succ N ih =>
                  intro v j hj hv hm
                  refine v_iload C dX7_count_111 rfl ?_
                  refine v_aload_n C dX7_count_113 rfl ?_
                  refine v_getf C g157 hR.1 rfl dX7_count_114 ?_
                  refine v_icmp_lt C (⟨by omega, by omega⟩) (⟨by omega, by omega⟩) (tgt := 145) dX7_count_117 (by decide) (fun c_117 => ?_) (fun c_117 => ?_)
                  · have hjv : j = av - 1 := by omega
                    have hv2 : v = valR A20 (i - av + 1).toNat av := by rw [hv, hjv, show i - (av - 1) = i - av + 1 by omega, show av - 1 + 1 = av by omega]
                    have hv9 := valR_9 (T := A20) (n := (i - av + 1).toNat) (a := av) (by omega)
                    rw [← hv2] at hv9
                    refine v_iload_n C dX7_count_145 rfl ?_
                    refine v_iconst C dX7_count_146 ?_
                    refine v_icmp_le C (⟨by omega, by omega⟩) (⟨by omega, by omega⟩) (tgt := 159) dX7_count_147 (by decide) (fun c_147 => ?_) (fun c_147 => ?_)
                    · refine v_lload_n C dX7_count_159 rfl ?_
                      refine v_ldc2 C (v := 4611686018427387904) (List.mem_of_getElem? (i := 7) rfl) (by decide +kernel) dX7_count_160 ?_
                      refine v_lcmp_lt C (⟨by omega, by omega⟩) (⟨by omega, by omega⟩) (tgt := 171) dX7_count_163 dX7_count_164 (by decide) (fun c_163 => ?_) (fun c_163 => ?_)
                      · refine v_aload_n C dX7_count_171 rfl ?_
                        refine v_iload_n C dX7_count_172 rfl ?_
                        refine v_iconst C dX7_count_173 ?_
                        refine v_iadd C dX7_count_174 ?_
                        refine m_put_22 C p157 hR dX7_count_175 (fun w hR hF9 => ?_)
                        have hF := hF.tr hF9
                        refine v_lload_n C dX7_count_178 rfl ?_
                        exact v_lret C rfl dX7_count_179 (Nat.le_refl _) (Nat.le_refl _) (hPO _ _ ⟨hF, by omega, by omega, _, by rw [rcF_eq he, if_neg (by omega), if_neg (by omega), if_neg (by omega), ← hw1]; exact hR, fun q => ⟨by rw [rcV, he]; exact hv2, by rw [rcN, he]⟩, by omega⟩)
                      · refine v_aload_n C dX7_count_167 rfl ?_
                        refine v_callVv C (q := (RX7, TX7, 33)) (As := []) (rest := []) (c_X7_fail hR ⟨by omega, by omega⟩) (cwV 0 hts gX7_count_X7_fail rfl rfl rfl (by decide +kernel) ⟨Nat.le_of_ble_eq_true rfl, Nat.le_of_ble_eq_true rfl⟩) hR.1 rfl rfl rfl (Nat.le_of_ble_eq_true rfl) dX7_count_168 (Nat.le_of_ble_eq_true rfl) (Nat.le_of_ble_eq_true rfl) (fun w hp => ?_)
                        obtain ⟨hR, hF9⟩ := hp
                        have hF := hF.tr hF9
                        refine v_wide (k' := 0) (z' := 0) (Nat.le_refl _) (Nat.le_refl _) ?_
                        refine v_aload_n C dX7_count_171 rfl ?_
                        refine v_iload_n C dX7_count_172 rfl ?_
                        refine v_iconst C dX7_count_173 ?_
                        refine v_iadd C dX7_count_174 ?_
                        refine m_put_22 C p157 hR dX7_count_175 (fun w hR hF9 => ?_)
                        have hF := hF.tr hF9
                        refine v_lload_n C dX7_count_178 rfl ?_
                        exact v_lret C rfl dX7_count_179 (Nat.le_refl _) (Nat.le_refl _) (hPO _ _ ⟨hF, by omega, by omega, _, by rw [rcF_eq he, if_neg (by omega), if_neg (by omega), if_pos (by omega)]; rw [if_pos hw1] at hR; exact hR, fun q => by rw [rcF_eq he, if_neg (by omega), if_neg (by omega), if_pos (by omega)] at q; omega, by omega⟩)
                    · refine v_aload_n C dX7_count_150 rfl ?_
                      refine v_getf C g45 hR.1 rfl dX7_count_151 ?_
                      refine v_iload_n C dX7_count_154 rfl ?_
                      refine v_iald C hR.a20 (⟨by omega, by omega⟩) (by omega) (by omega) dX7_count_155 ?_
                      refine v_if_eq C (⟨by have := hT i (by omega) (by omega); omega, by have := hT i (by omega) (by omega); omega⟩) (tgt := 167) dX7_count_156 (by decide) (fun c_156 => ?_) (fun c_156 => ?_)
                      · refine v_aload_n C dX7_count_167 rfl ?_
                        refine v_callVv C (q := (RX7, TX7, 33)) (As := []) (rest := []) (c_X7_fail hR ⟨by omega, by omega⟩) (cwV 0 hts gX7_count_X7_fail rfl rfl rfl (by decide +kernel) ⟨Nat.le_of_ble_eq_true rfl, Nat.le_of_ble_eq_true rfl⟩) hR.1 rfl rfl rfl (Nat.le_of_ble_eq_true rfl) dX7_count_168 (Nat.le_of_ble_eq_true rfl) (Nat.le_of_ble_eq_true rfl) (fun w hp => ?_)
                        obtain ⟨hR, hF9⟩ := hp
                        have hF := hF.tr hF9
                        refine v_wide (k' := 0) (z' := 0) (Nat.le_refl _) (Nat.le_refl _) ?_
                        refine v_aload_n C dX7_count_171 rfl ?_
                        refine v_iload_n C dX7_count_172 rfl ?_
                        refine v_iconst C dX7_count_173 ?_
                        refine v_iadd C dX7_count_174 ?_
                        refine m_put_22 C p157 hR dX7_count_175 (fun w hR hF9 => ?_)
                        have hF := hF.tr hF9
                        refine v_lload_n C dX7_count_178 rfl ?_
                        exact v_lret C rfl dX7_count_179 (Nat.le_refl _) (Nat.le_refl _) (hPO _ _ ⟨hF, by omega, by omega, _, by rw [rcF_eq he, if_neg (by omega), if_neg (by omega), if_pos (by omega)]; rw [if_pos hw1] at hR; exact hR, fun q => by rw [rcF_eq he, if_neg (by omega), if_neg (by omega), if_pos (by omega)] at q; omega, by omega⟩)
                      · refine v_lload_n C dX7_count_159 rfl ?_
                        refine v_ldc2 C (v := 4611686018427387904) (List.mem_of_getElem? (i := 7) rfl) (by decide +kernel) dX7_count_160 ?_
                        refine v_lcmp_lt C (⟨by omega, by omega⟩) (⟨by omega, by omega⟩) (tgt := 171) dX7_count_163 dX7_count_164 (by decide) (fun c_163 => ?_) (fun c_163 => ?_)
                        · refine v_aload_n C dX7_count_171 rfl ?_
                          refine v_iload_n C dX7_count_172 rfl ?_
                          refine v_iconst C dX7_count_173 ?_
                          refine v_iadd C dX7_count_174 ?_
                          refine m_put_22 C p157 hR dX7_count_175 (fun w hR hF9 => ?_)
                          have hF := hF.tr hF9
                          refine v_lload_n C dX7_count_178 rfl ?_
                          exact v_lret C rfl dX7_count_179 (Nat.le_refl _) (Nat.le_refl _) (hPO _ _ ⟨hF, by omega, by omega, _, by rw [rcF_eq he, if_neg (by omega), if_neg (by omega), if_neg (by omega), ← hw1]; exact hR, fun q => ⟨by rw [rcV, he]; exact hv2, by rw [rcN, he]⟩, by omega⟩)
                        · refine v_aload_n C dX7_count_167 rfl ?_
                          refine v_callVv C (q := (RX7, TX7, 33)) (As := []) (rest := []) (c_X7_fail hR ⟨by omega, by omega⟩) (cwV 0 hts gX7_count_X7_fail rfl rfl rfl (by decide +kernel) ⟨Nat.le_of_ble_eq_true rfl, Nat.le_of_ble_eq_true rfl⟩) hR.1 rfl rfl rfl (Nat.le_of_ble_eq_true rfl) dX7_count_168 (Nat.le_of_ble_eq_true rfl) (Nat.le_of_ble_eq_true rfl) (fun w hp => ?_)
                          obtain ⟨hR, hF9⟩ := hp
                          have hF := hF.tr hF9
                          refine v_wide (k' := 0) (z' := 0) (Nat.le_refl _) (Nat.le_refl _) ?_
                          refine v_aload_n C dX7_count_171 rfl ?_
                          refine v_iload_n C dX7_count_172 rfl ?_
                          refine v_iconst C dX7_count_173 ?_
                          refine v_iadd C dX7_count_174 ?_
                          refine m_put_22 C p157 hR dX7_count_175 (fun w hR hF9 => ?_)
                          have hF := hF.tr hF9
                          refine v_lload_n C dX7_count_178 rfl ?_
                          exact v_lret C rfl dX7_count_179 (Nat.le_refl _) (Nat.le_refl _) (hPO _ _ ⟨hF, by omega, by omega, _, by rw [rcF_eq he, if_neg (by omega), if_neg (by omega), if_pos (by omega)]; rw [if_pos hw1] at hR; exact hR, fun q => by rw [rcF_eq he, if_neg (by omega), if_neg (by omega), if_pos (by omega)] at q; omega, by omega⟩)
                  · refine v_ldc2 C (v := 128) (List.mem_of_getElem? (i := 6) rfl) (by decide +kernel) dX7_count_120 ?_
                    refine v_lload_n C dX7_count_123 rfl ?_
                    refine v_lmul C dX7_count_124 ?_
                    refine v_aload_n C dX7_count_125 rfl ?_
                    refine v_getf C g45 hR.1 rfl dX7_count_126 ?_
                    refine v_iload C dX7_count_129 rfl ?_
                    refine v_iald C hR.a20 (⟨by omega, by omega⟩) (by omega) (by omega) dX7_count_131 ?_
                    refine v_sipush C dX7_count_132 rfl ?_
                    refine v_irem C (⟨by have := hT j (by omega) (by omega); omega, by have := hT j (by omega) (by omega); omega⟩) (by have := hT j (by omega) (by omega); omega) (⟨by omega, by omega⟩) (by omega) dX7_count_135 ?_
                    refine v_i2l C (⟨by omega, by omega⟩) dX7_count_136 ?_
                    refine v_ladd C dX7_count_137 ?_
                    refine v_lstore_n C dX7_count_138 sj_6_3 (by decide) (Nat.le_of_ble_eq_true rfl) rfl ?_
                    refine v_iinc C dX7_count_139 rfl sl_6_5 (by decide) rfl ?_
                    refine v_goto C (tgt := 111) dX7_count_142 (by decide) ?_
                    exact ih _ (j + -1) ⟨by omega, by omega⟩ (by rw [hv, show (i - (j + -1)).toNat = (i - j).toNat + 1 by omega, valR, show j + -1 + 1 = j by omega]; omega) (by omega)
              exact L111 _ 0 i ⟨by omega, by omega⟩ (by rw [Int.sub_self]; rfl) (Nat.lt_succ_self _)
            · refine v_aload_n C dX7_count_81 rfl ?_
              refine v_aload_n C dX7_count_82 rfl ?_
              refine v_getf C g151 hR.1 rfl dX7_count_83 ?_
              refine v_iconst C dX7_count_86 ?_
              refine v_icmp_ne C (⟨by omega, by omega⟩) (⟨by omega, by omega⟩) (tgt := 97) dX7_count_87 (by decide) (fun c_87 => ?_) (fun c_87 => ?_)
              · exact absurd c_87 (by omega)
              · refine v_aload_n C dX7_count_90 rfl ?_
                refine v_getf C g148 hR.1 rfl dX7_count_91 ?_
                refine v_goto C (tgt := 101) dX7_count_94 (by decide) ?_
                refine m_put_24 C p151 hR dX7_count_101 (fun w hR hF9 => ?_)
                have hF := hF.tr hF9
                refine v_lconst C (v := 0) dX7_count_104 rfl ?_
                exact v_lret C rfl dX7_count_105 (Nat.le_refl _) (Nat.le_refl _) (hPO _ _ ⟨hF, by omega, by omega, _, by rw [rcF_eq he, if_neg (by omega), if_pos (by omega)]; exact hR, fun q => by rw [rcF_eq he, if_neg (by omega), if_pos (by omega)] at q; omega, by omega⟩)
          · refine v_aload_n C dX7_count_67 rfl ?_
            refine v_callVv C (q := (RX7, TX7, 33)) (As := []) (rest := []) (c_X7_fail hR ⟨by omega, by omega⟩) (cwV 0 hts gX7_count_X7_fail rfl rfl rfl (by decide +kernel) ⟨Nat.le_of_ble_eq_true rfl, Nat.le_of_ble_eq_true rfl⟩) hR.1 rfl rfl rfl (Nat.le_of_ble_eq_true rfl) dX7_count_68 (Nat.le_of_ble_eq_true rfl) (Nat.le_of_ble_eq_true rfl) (fun w hp => ?_)
            obtain ⟨hR, hF9⟩ := hp
            have hF := hF.tr hF9
            refine v_wide (k' := 0) (z' := 0) (Nat.le_refl _) (Nat.le_refl _) ?_
            refine v_lconst C (v := 0) dX7_count_71 rfl ?_
            exact v_lret C rfl dX7_count_72 (Nat.le_refl _) (Nat.le_refl _) (hPO _ _ ⟨hF, by omega, by omega, _, by rw [rcF_eq he, if_pos (by omega)]; rw [if_pos hw1] at hR; exact hR, fun q => by rw [rcF_eq he, if_pos (by omega)] at q; omega, by omega⟩)
      · refine v_aload_n C dX7_count_21 rfl ?_
        refine v_getf C g45 hR.1 rfl dX7_count_22 ?_
        refine v_iload_n C dX7_count_25 rfl ?_
        refine v_iald C hR.a20 (⟨by omega, by omega⟩) (by omega) (by omega) dX7_count_26 ?_
        refine v_bipush C dX7_count_27 rfl ?_
        refine v_icmp_le C (⟨by have := hT i (by omega) (by omega); omega, by have := hT i (by omega) (by omega); omega⟩) (⟨by omega, by omega⟩) (tgt := 38) dX7_count_29 (by decide) (fun c_29 => ?_) (fun c_29 => ?_)
        · have he : lastP A20 ts av = i := by rw [← hi2]; exact scE_stop (fun h9 => by omega)
          refine v_iload_n C dX7_count_38 rfl ?_
          refine v_aload_n C dX7_count_39 rfl ?_
          refine v_getf C g157 hR.1 rfl dX7_count_40 ?_
          refine v_isub C dX7_count_43 ?_
          refine v_iconst C dX7_count_44 ?_
          refine v_iadd C dX7_count_45 ?_
          refine v_istore_n C dX7_count_46 sl_6_2 (by decide) rfl ?_
          refine v_iload_n C dX7_count_47 rfl ?_
          refine v_bipush C dX7_count_48 rfl ?_
          refine v_icmp_le C (⟨by omega, by omega⟩) (⟨by omega, by omega⟩) (tgt := 73) dX7_count_50 (by decide) (fun c_50 => ?_) (fun c_50 => ?_)
          · refine v_iload_n C dX7_count_73 rfl ?_
            refine v_aload_n C dX7_count_74 rfl ?_
            refine v_getf C g148 hR.1 rfl dX7_count_75 ?_
            refine v_icmp_ne C (⟨by omega, by omega⟩) (⟨by omega, by omega⟩) (tgt := 106) dX7_count_78 (by decide) (fun c_78 => ?_) (fun c_78 => ?_)
            · refine v_lconst C (v := 0) dX7_count_106 rfl ?_
              refine v_lstore_n C dX7_count_107 sj_6_3 (by decide) (Nat.le_of_ble_eq_true rfl) rfl ?_
              refine v_iload_n C dX7_count_108 rfl ?_
              refine v_istore C dX7_count_109 sl_6_5 (by decide) rfl ?_
              have L111 : ∀ (N : Nat) (v j : Int), (av - 1 ≤ j ∧ j ≤ i) → (v = valR A20 (i - j).toNat (j + 1)) → (j - av + 1).toNat < N → V G p l e { frames := 2, cells := 0, slots := 0, locals := 80 } s m args below meth c (MQW G below args s 0 0 (pL PO)) w 0 0 111 [some (.ref r), some (.int (iI i)), some (.int (iI (i - av + 1))), some (.long (lI v)), none, some (.int (iI j))] [] := by
                intro N
                induction N with
                | zero => intro v j hj hv hm; exact absurd hm (Nat.not_lt_zero _)
                | succ N ih =>
                  intro v j hj hv hm
                  refine v_iload C dX7_count_111 rfl ?_
                  refine v_aload_n C dX7_count_113 rfl ?_
                  refine v_getf C g157 hR.1 rfl dX7_count_114 ?_
                  refine v_icmp_lt C (⟨by omega, by omega⟩) (⟨by omega, by omega⟩) (tgt := 145) dX7_count_117 (by decide) (fun c_117 => ?_) (fun c_117 => ?_)
                  · have hjv : j = av - 1 := by omega
                    have hv2 : v = valR A20 (i - av + 1).toNat av := by rw [hv, hjv, show i - (av - 1) = i - av + 1 by omega, show av - 1 + 1 = av by omega]
                    have hv9 := valR_9 (T := A20) (n := (i - av + 1).toNat) (a := av) (by omega)
                    rw [← hv2] at hv9
                    refine v_iload_n C dX7_count_145 rfl ?_
                    refine v_iconst C dX7_count_146 ?_
                    refine v_icmp_le C (⟨by omega, by omega⟩) (⟨by omega, by omega⟩) (tgt := 159) dX7_count_147 (by decide) (fun c_147 => ?_) (fun c_147 => ?_)
                    · refine v_lload_n C dX7_count_159 rfl ?_
                      refine v_ldc2 C (v := 4611686018427387904) (List.mem_of_getElem? (i := 7) rfl) (by decide +kernel) dX7_count_160 ?_
                      refine v_lcmp_lt C (⟨by omega, by omega⟩) (⟨by omega, by omega⟩) (tgt := 171) dX7_count_163 dX7_count_164 (by decide) (fun c_163 => ?_) (fun c_163 => ?_)
                      · refine v_aload_n C dX7_count_171 rfl ?_
                        refine v_iload_n C dX7_count_172 rfl ?_
                        refine v_iconst C dX7_count_173 ?_
                        refine v_iadd C dX7_count_174 ?_
                        refine m_put_22 C p157 hR dX7_count_175 (fun w hR hF9 => ?_)
                        have hF := hF.tr hF9
                        refine v_lload_n C dX7_count_178 rfl ?_
                        exact v_lret C rfl dX7_count_179 (Nat.le_refl _) (Nat.le_refl _) (hPO _ _ ⟨hF, by omega, by omega, _, by rw [rcF_eq he, if_neg (by omega), if_neg (by omega), if_neg (by omega), ← hw1]; exact hR, fun q => ⟨by rw [rcV, he]; exact hv2, by rw [rcN, he]⟩, by omega⟩)
                      · refine v_aload_n C dX7_count_167 rfl ?_
                        refine v_callVv C (q := (RX7, TX7, 33)) (As := []) (rest := []) (c_X7_fail hR ⟨by omega, by omega⟩) (cwV 0 hts gX7_count_X7_fail rfl rfl rfl (by decide +kernel) ⟨Nat.le_of_ble_eq_true rfl, Nat.le_of_ble_eq_true rfl⟩) hR.1 rfl rfl rfl (Nat.le_of_ble_eq_true rfl) dX7_count_168 (Nat.le_of_ble_eq_true rfl) (Nat.le_of_ble_eq_true rfl) (fun w hp => ?_)
                        obtain ⟨hR, hF9⟩ := hp
                        have hF := hF.tr hF9
                        refine v_wide (k' := 0) (z' := 0) (Nat.le_refl _) (Nat.le_refl _) ?_
                        refine v_aload_n C dX7_count_171 rfl ?_
                        refine v_iload_n C dX7_count_172 rfl ?_
                        refine v_iconst C dX7_count_173 ?_
                        refine v_iadd C dX7_count_174 ?_
                        refine m_put_22 C p157 hR dX7_count_175 (fun w hR hF9 => ?_)
                        have hF := hF.tr hF9
                        refine v_lload_n C dX7_count_178 rfl ?_
                        exact v_lret C rfl dX7_count_179 (Nat.le_refl _) (Nat.le_refl _) (hPO _ _ ⟨hF, by omega, by omega, _, by rw [rcF_eq he, if_neg (by omega), if_neg (by omega), if_pos (by omega)]; rw [if_pos hw1] at hR; exact hR, fun q => by rw [rcF_eq he, if_neg (by omega), if_neg (by omega), if_pos (by omega)] at q; omega, by omega⟩)
                    · refine v_aload_n C dX7_count_150 rfl ?_
                      refine v_getf C g45 hR.1 rfl dX7_count_151 ?_
                      refine v_iload_n C dX7_count_154 rfl ?_
                      refine v_iald C hR.a20 (⟨by omega, by omega⟩) (by omega) (by omega) dX7_count_155 ?_
                      refine v_if_eq C (⟨by have := hT i (by omega) (by omega); omega, by have := hT i (by omega) (by omega); omega⟩) (tgt := 167) dX7_count_156 (by decide) (fun c_156 => ?_) (fun c_156 => ?_)
                      · refine v_aload_n C dX7_count_167 rfl ?_
                        refine v_callVv C (q := (RX7, TX7, 33)) (As := []) (rest := []) (c_X7_fail hR ⟨by omega, by omega⟩) (cwV 0 hts gX7_count_X7_fail rfl rfl rfl (by decide +kernel) ⟨Nat.le_of_ble_eq_true rfl, Nat.le_of_ble_eq_true rfl⟩) hR.1 rfl rfl rfl (Nat.le_of_ble_eq_true rfl) dX7_count_168 (Nat.le_of_ble_eq_true rfl) (Nat.le_of_ble_eq_true rfl) (fun w hp => ?_)
                        obtain ⟨hR, hF9⟩ := hp
                        have hF := hF.tr hF9
                        refine v_wide (k' := 0) (z' := 0) (Nat.le_refl _) (Nat.le_refl _) ?_
                        refine v_aload_n C dX7_count_171 rfl ?_
                        refine v_iload_n C dX7_count_172 rfl ?_
                        refine v_iconst C dX7_count_173 ?_
                        refine v_iadd C dX7_count_174 ?_
                        refine m_put_22 C p157 hR dX7_count_175 (fun w hR hF9 => ?_)
                        have hF := hF.tr hF9
                        refine v_lload_n C dX7_count_178 rfl ?_
                        exact v_lret C rfl dX7_count_179 (Nat.le_refl _) (Nat.le_refl _) (hPO _ _ ⟨hF, by omega, by omega, _, by rw [rcF_eq he, if_neg (by omega), if_neg (by omega), if_pos (by omega)]; rw [if_pos hw1] at hR; exact hR, fun q => by rw [rcF_eq he, if_neg (by omega), if_neg (by omega), if_pos (by omega)] at q; omega, by omega⟩)
                      · refine v_lload_n C dX7_count_159 rfl ?_
                        refine v_ldc2 C (v := 4611686018427387904) (List.mem_of_getElem? (i := 7) rfl) (by decide +kernel) dX7_count_160 ?_
                        refine v_lcmp_lt C (⟨by omega, by omega⟩) (⟨by omega, by omega⟩) (tgt := 171) dX7_count_163 dX7_count_164 (by decide) (fun c_163 => ?_) (fun c_163 => ?_)
                        · refine v_aload_n C dX7_count_171 rfl ?_
                          refine v_iload_n C dX7_count_172 rfl ?_
                          refine v_iconst C dX7_count_173 ?_
                          refine v_iadd C dX7_count_174 ?_
                          refine m_put_22 C p157 hR dX7_count_175 (fun w hR hF9 => ?_)
                          have hF := hF.tr hF9
                          refine v_lload_n C dX7_count_178 rfl ?_
                          exact v_lret C rfl dX7_count_179 (Nat.le_refl _) (Nat.le_refl _) (hPO _ _ ⟨hF, by omega, by omega, _, by rw [rcF_eq he, if_neg (by omega), if_neg (by omega), if_neg (by omega), ← hw1]; exact hR, fun q => ⟨by rw [rcV, he]; exact hv2, by rw [rcN, he]⟩, by omega⟩)
                        · refine v_aload_n C dX7_count_167 rfl ?_
                          refine v_callVv C (q := (RX7, TX7, 33)) (As := []) (rest := []) (c_X7_fail hR ⟨by omega, by omega⟩) (cwV 0 hts gX7_count_X7_fail rfl rfl rfl (by decide +kernel) ⟨Nat.le_of_ble_eq_true rfl, Nat.le_of_ble_eq_true rfl⟩) hR.1 rfl rfl rfl (Nat.le_of_ble_eq_true rfl) dX7_count_168 (Nat.le_of_ble_eq_true rfl) (Nat.le_of_ble_eq_true rfl) (fun w hp => ?_)
                          obtain ⟨hR, hF9⟩ := hp
                          have hF := hF.tr hF9
                          refine v_wide (k' := 0) (z' := 0) (Nat.le_refl _) (Nat.le_refl _) ?_
                          refine v_aload_n C dX7_count_171 rfl ?_
                          refine v_iload_n C dX7_count_172 rfl ?_
                          refine v_iconst C dX7_count_173 ?_
                          refine v_iadd C dX7_count_174 ?_
                          refine m_put_22 C p157 hR dX7_count_175 (fun w hR hF9 => ?_)
                          have hF := hF.tr hF9
                          refine v_lload_n C dX7_count_178 rfl ?_
                          exact v_lret C rfl dX7_count_179 (Nat.le_refl _) (Nat.le_refl _) (hPO _ _ ⟨hF, by omega, by omega, _, by rw [rcF_eq he, if_neg (by omega), if_neg (by omega), if_pos (by omega)]; rw [if_pos hw1] at hR; exact hR, fun q => by rw [rcF_eq he, if_neg (by omega), if_neg (by omega), if_pos (by omega)] at q; omega, by omega⟩)
                  · refine v_ldc2 C (v := 128) (List.mem_of_getElem? (i := 6) rfl) (by decide +kernel) dX7_count_120 ?_
                    refine v_lload_n C dX7_count_123 rfl ?_
                    refine v_lmul C dX7_count_124 ?_
                    refine v_aload_n C dX7_count_125 rfl ?_
                    refine v_getf C g45 hR.1 rfl dX7_count_126 ?_
                    refine v_iload C dX7_count_129 rfl ?_
                    refine v_iald C hR.a20 (⟨by omega, by omega⟩) (by omega) (by omega) dX7_count_131 ?_
                    refine v_sipush C dX7_count_132 rfl ?_
                    refine v_irem C (⟨by have := hT j (by omega) (by omega); omega, by have := hT j (by omega) (by omega); omega⟩) (by have := hT j (by omega) (by omega); omega) (⟨by omega, by omega⟩) (by omega) dX7_count_135 ?_
                    refine v_i2l C (⟨by omega, by omega⟩) dX7_count_136 ?_
                    refine v_ladd C dX7_count_137 ?_
                    refine v_lstore_n C dX7_count_138 sj_6_3 (by decide) (Nat.le_of_ble_eq_true rfl) rfl ?_
                    refine v_iinc C dX7_count_139 rfl sl_6_5 (by decide) rfl ?_
                    refine v_goto C (tgt := 111) dX7_count_142 (by decide) ?_
                    exact ih _ (j + -1) ⟨by omega, by omega⟩ (by rw [hv, show (i - (j + -1)).toNat = (i - j).toNat + 1 by omega, valR, show j + -1 + 1 = j by omega]; omega) (by omega)
              exact L111 _ 0 i ⟨by omega, by omega⟩ (by rw [Int.sub_self]; rfl) (Nat.lt_succ_self _)
            · refine v_aload_n C dX7_count_81 rfl ?_
              refine v_aload_n C dX7_count_82 rfl ?_
              refine v_getf C g151 hR.1 rfl dX7_count_83 ?_
              refine v_iconst C dX7_count_86 ?_
              refine v_icmp_ne C (⟨by omega, by omega⟩) (⟨by omega, by omega⟩) (tgt := 97) dX7_count_87 (by decide) (fun c_87 => ?_) (fun c_87 => ?_)
              · exact absurd c_87 (by omega)
              · refine v_aload_n C dX7_count_90 rfl ?_
                refine v_getf C g148 hR.1 rfl dX7_count_91 ?_
                refine v_goto C (tgt := 101) dX7_count_94 (by decide) ?_
                refine m_put_24 C p151 hR dX7_count_101 (fun w hR hF9 => ?_)
                have hF := hF.tr hF9
                refine v_lconst C (v := 0) dX7_count_104 rfl ?_
                exact v_lret C rfl dX7_count_105 (Nat.le_refl _) (Nat.le_refl _) (hPO _ _ ⟨hF, by omega, by omega, _, by rw [rcF_eq he, if_neg (by omega), if_pos (by omega)]; exact hR, fun q => by rw [rcF_eq he, if_neg (by omega), if_pos (by omega)] at q; omega, by omega⟩)
          · refine v_aload_n C dX7_count_53 rfl ?_
            refine v_getf C g157 hR.1 rfl dX7_count_54 ?_
            refine v_bipush C dX7_count_57 rfl ?_
            refine v_iadd C dX7_count_59 ?_
            refine v_aload_n C dX7_count_60 rfl ?_
            refine v_getf C g148 hR.1 rfl dX7_count_61 ?_
            refine v_icmp_ge C (⟨by omega, by omega⟩) (⟨by omega, by omega⟩) (tgt := 73) dX7_count_64 (by decide) (fun c_64 => ?_) (fun c_64 => ?_)
            · refine v_iload_n C dX7_count_73 rfl ?_
              refine v_aload_n C dX7_count_74 rfl ?_
              refine v_getf C g148 hR.1 rfl dX7_count_75 ?_
              refine v_icmp_ne C (⟨by omega, by omega⟩) (⟨by omega, by omega⟩) (tgt := 106) dX7_count_78 (by decide) (fun c_78 => ?_) (fun c_78 => ?_)
              · refine v_lconst C (v := 0) dX7_count_106 rfl ?_
                refine v_lstore_n C dX7_count_107 sj_6_3 (by decide) (Nat.le_of_ble_eq_true rfl) rfl ?_
                refine v_iload_n C dX7_count_108 rfl ?_
                refine v_istore C dX7_count_109 sl_6_5 (by decide) rfl ?_
                have L111 : ∀ (N : Nat) (v j : Int), (av - 1 ≤ j ∧ j ≤ i) → (v = valR A20 (i - j).toNat (j + 1)) → (j - av + 1).toNat < N → V G p l e { frames := 2, cells := 0, slots := 0, locals := 80 } s m args below meth c (MQW G below args s 0 0 (pL PO)) w 0 0 111 [some (.ref r), some (.int (iI i)), some (.int (iI (i - av + 1))), some (.long (lI v)), none, some (.int (iI j))] [] := by
                  intro N
                  induction N with
                  | zero => intro v j hj hv hm; exact absurd hm (Nat.not_lt_zero _)
                  | succ N ih =>
                    intro v j hj hv hm
                    refine v_iload C dX7_count_111 rfl ?_
                    refine v_aload_n C dX7_count_113 rfl ?_
                    refine v_getf C g157 hR.1 rfl dX7_count_114 ?_
                    refine v_icmp_lt C (⟨by omega, by omega⟩) (⟨by omega, by omega⟩) (tgt := 145) dX7_count_117 (by decide) (fun c_117 => ?_) (fun c_117 => ?_)
                    · have hjv : j = av - 1 := by omega
                      have hv2 : v = valR A20 (i - av + 1).toNat av := by rw [hv, hjv, show i - (av - 1) = i - av + 1 by omega, show av - 1 + 1 = av by omega]
                      have hv9 := valR_9 (T := A20) (n := (i - av + 1).toNat) (a := av) (by omega)
                      rw [← hv2] at hv9
                      refine v_iload_n C dX7_count_145 rfl ?_
                      refine v_iconst C dX7_count_146 ?_
                      refine v_icmp_le C (⟨by omega, by omega⟩) (⟨by omega, by omega⟩) (tgt := 159) dX7_count_147 (by decide) (fun c_147 => ?_) (fun c_147 => ?_)
                      · refine v_lload_n C dX7_count_159 rfl ?_
                        refine v_ldc2 C (v := 4611686018427387904) (List.mem_of_getElem? (i := 7) rfl) (by decide +kernel) dX7_count_160 ?_
                        refine v_lcmp_lt C (⟨by omega, by omega⟩) (⟨by omega, by omega⟩) (tgt := 171) dX7_count_163 dX7_count_164 (by decide) (fun c_163 => ?_) (fun c_163 => ?_)
                        · refine v_aload_n C dX7_count_171 rfl ?_
                          refine v_iload_n C dX7_count_172 rfl ?_
                          refine v_iconst C dX7_count_173 ?_
                          refine v_iadd C dX7_count_174 ?_
                          refine m_put_22 C p157 hR dX7_count_175 (fun w hR hF9 => ?_)
                          have hF := hF.tr hF9
                          refine v_lload_n C dX7_count_178 rfl ?_
                          exact v_lret C rfl dX7_count_179 (Nat.le_refl _) (Nat.le_refl _) (hPO _ _ ⟨hF, by omega, by omega, _, by rw [rcF_eq he, if_neg (by omega), if_neg (by omega), if_neg (by omega), ← hw1]; exact hR, fun q => ⟨by rw [rcV, he]; exact hv2, by rw [rcN, he]⟩, by omega⟩)
                        · refine v_aload_n C dX7_count_167 rfl ?_
                          refine v_callVv C (q := (RX7, TX7, 33)) (As := []) (rest := []) (c_X7_fail hR ⟨by omega, by omega⟩) (cwV 0 hts gX7_count_X7_fail rfl rfl rfl (by decide +kernel) ⟨Nat.le_of_ble_eq_true rfl, Nat.le_of_ble_eq_true rfl⟩) hR.1 rfl rfl rfl (Nat.le_of_ble_eq_true rfl) dX7_count_168 (Nat.le_of_ble_eq_true rfl) (Nat.le_of_ble_eq_true rfl) (fun w hp => ?_)
                          obtain ⟨hR, hF9⟩ := hp
                          have hF := hF.tr hF9
                          refine v_wide (k' := 0) (z' := 0) (Nat.le_refl _) (Nat.le_refl _) ?_
                          refine v_aload_n C dX7_count_171 rfl ?_
                          refine v_iload_n C dX7_count_172 rfl ?_
                          refine v_iconst C dX7_count_173 ?_
                          refine v_iadd C dX7_count_174 ?_
                          refine m_put_22 C p157 hR dX7_count_175 (fun w hR hF9 => ?_)
                          have hF := hF.tr hF9
                          refine v_lload_n C dX7_count_178 rfl ?_
                          exact v_lret C rfl dX7_count_179 (Nat.le_refl _) (Nat.le_refl _) (hPO _ _ ⟨hF, by omega, by omega, _, by rw [rcF_eq he, if_neg (by omega), if_neg (by omega), if_pos (by omega)]; rw [if_pos hw1] at hR; exact hR, fun q => by rw [rcF_eq he, if_neg (by omega), if_neg (by omega), if_pos (by omega)] at q; omega, by omega⟩)
                      · refine v_aload_n C dX7_count_150 rfl ?_
                        refine v_getf C g45 hR.1 rfl dX7_count_151 ?_
                        refine v_iload_n C dX7_count_154 rfl ?_
                        refine v_iald C hR.a20 (⟨by omega, by omega⟩) (by omega) (by omega) dX7_count_155 ?_
                        refine v_if_eq C (⟨by have := hT i (by omega) (by omega); omega, by have := hT i (by omega) (by omega); omega⟩) (tgt := 167) dX7_count_156 (by decide) (fun c_156 => ?_) (fun c_156 => ?_)
                        · refine v_aload_n C dX7_count_167 rfl ?_
                          refine v_callVv C (q := (RX7, TX7, 33)) (As := []) (rest := []) (c_X7_fail hR ⟨by omega, by omega⟩) (cwV 0 hts gX7_count_X7_fail rfl rfl rfl (by decide +kernel) ⟨Nat.le_of_ble_eq_true rfl, Nat.le_of_ble_eq_true rfl⟩) hR.1 rfl rfl rfl (Nat.le_of_ble_eq_true rfl) dX7_count_168 (Nat.le_of_ble_eq_true rfl) (Nat.le_of_ble_eq_true rfl) (fun w hp => ?_)
                          obtain ⟨hR, hF9⟩ := hp
                          have hF := hF.tr hF9
                          refine v_wide (k' := 0) (z' := 0) (Nat.le_refl _) (Nat.le_refl _) ?_
                          refine v_aload_n C dX7_count_171 rfl ?_
                          refine v_iload_n C dX7_count_172 rfl ?_
                          refine v_iconst C dX7_count_173 ?_
                          refine v_iadd C dX7_count_174 ?_
                          refine m_put_22 C p157 hR dX7_count_175 (fun w hR hF9 => ?_)
                          have hF := hF.tr hF9
                          refine v_lload_n C dX7_count_178 rfl ?_
                          exact v_lret C rfl dX7_count_179 (Nat.le_refl _) (Nat.le_refl _) (hPO _ _ ⟨hF, by omega, by omega, _, by rw [rcF_eq he, if_neg (by omega), if_neg (by omega), if_pos (by omega)]; rw [if_pos hw1] at hR; exact hR, fun q => by rw [rcF_eq he, if_neg (by omega), if_neg (by omega), if_pos (by omega)] at q; omega, by omega⟩)
                        · refine v_lload_n C dX7_count_159 rfl ?_
                          refine v_ldc2 C (v := 4611686018427387904) (List.mem_of_getElem? (i := 7) rfl) (by decide +kernel) dX7_count_160 ?_
                          refine v_lcmp_lt C (⟨by omega, by omega⟩) (⟨by omega, by omega⟩) (tgt := 171) dX7_count_163 dX7_count_164 (by decide) (fun c_163 => ?_) (fun c_163 => ?_)
                          · refine v_aload_n C dX7_count_171 rfl ?_
                            refine v_iload_n C dX7_count_172 rfl ?_
                            refine v_iconst C dX7_count_173 ?_
                            refine v_iadd C dX7_count_174 ?_
                            refine m_put_22 C p157 hR dX7_count_175 (fun w hR hF9 => ?_)
                            have hF := hF.tr hF9
                            refine v_lload_n C dX7_count_178 rfl ?_
                            exact v_lret C rfl dX7_count_179 (Nat.le_refl _) (Nat.le_refl _) (hPO _ _ ⟨hF, by omega, by omega, _, by rw [rcF_eq he, if_neg (by omega), if_neg (by omega), if_neg (by omega), ← hw1]; exact hR, fun q => ⟨by rw [rcV, he]; exact hv2, by rw [rcN, he]⟩, by omega⟩)
                          · refine v_aload_n C dX7_count_167 rfl ?_
                            refine v_callVv C (q := (RX7, TX7, 33)) (As := []) (rest := []) (c_X7_fail hR ⟨by omega, by omega⟩) (cwV 0 hts gX7_count_X7_fail rfl rfl rfl (by decide +kernel) ⟨Nat.le_of_ble_eq_true rfl, Nat.le_of_ble_eq_true rfl⟩) hR.1 rfl rfl rfl (Nat.le_of_ble_eq_true rfl) dX7_count_168 (Nat.le_of_ble_eq_true rfl) (Nat.le_of_ble_eq_true rfl) (fun w hp => ?_)
                            obtain ⟨hR, hF9⟩ := hp
                            have hF := hF.tr hF9
                            refine v_wide (k' := 0) (z' := 0) (Nat.le_refl _) (Nat.le_refl _) ?_
                            refine v_aload_n C dX7_count_171 rfl ?_
                            refine v_iload_n C dX7_count_172 rfl ?_
                            refine v_iconst C dX7_count_173 ?_
                            refine v_iadd C dX7_count_174 ?_
                            refine m_put_22 C p157 hR dX7_count_175 (fun w hR hF9 => ?_)
                            have hF := hF.tr hF9
                            refine v_lload_n C dX7_count_178 rfl ?_
                            exact v_lret C rfl dX7_count_179 (Nat.le_refl _) (Nat.le_refl _) (hPO _ _ ⟨hF, by omega, by omega, _, by rw [rcF_eq he, if_neg (by omega), if_neg (by omega), if_pos (by omega)]; rw [if_pos hw1] at hR; exact hR, fun q => by rw [rcF_eq he, if_neg (by omega), if_neg (by omega), if_pos (by omega)] at q; omega, by omega⟩)
                    · refine v_ldc2 C (v := 128) (List.mem_of_getElem? (i := 6) rfl) (by decide +kernel) dX7_count_120 ?_
                      refine v_lload_n C dX7_count_123 rfl ?_
                      refine v_lmul C dX7_count_124 ?_
                      refine v_aload_n C dX7_count_125 rfl ?_
                      refine v_getf C g45 hR.1 rfl dX7_count_126 ?_
                      refine v_iload C dX7_count_129 rfl ?_
                      refine v_iald C hR.a20 (⟨by omega, by omega⟩) (by omega) (by omega) dX7_count_131 ?_
                      refine v_sipush C dX7_count_132 rfl ?_
                      refine v_irem C (⟨by have := hT j (by omega) (by omega); omega, by have := hT j (by omega) (by omega); omega⟩) (by have := hT j (by omega) (by omega); omega) (⟨by omega, by omega⟩) (by omega) dX7_count_135 ?_
                      refine v_i2l C (⟨by omega, by omega⟩) dX7_count_136 ?_
                      refine v_ladd C dX7_count_137 ?_
                      refine v_lstore_n C dX7_count_138 sj_6_3 (by decide) (Nat.le_of_ble_eq_true rfl) rfl ?_
                      refine v_iinc C dX7_count_139 rfl sl_6_5 (by decide) rfl ?_
                      refine v_goto C (tgt := 111) dX7_count_142 (by decide) ?_
                      exact ih _ (j + -1) ⟨by omega, by omega⟩ (by rw [hv, show (i - (j + -1)).toNat = (i - j).toNat + 1 by omega, valR, show j + -1 + 1 = j by omega]; omega) (by omega)
                exact L111 _ 0 i ⟨by omega, by omega⟩ (by rw [Int.sub_self]; rfl) (Nat.lt_succ_self _)
              · refine v_aload_n C dX7_count_81 rfl ?_
                refine v_aload_n C dX7_count_82 rfl ?_
                refine v_getf C g151 hR.1 rfl dX7_count_83 ?_
                refine v_iconst C dX7_count_86 ?_
                refine v_icmp_ne C (⟨by omega, by omega⟩) (⟨by omega, by omega⟩) (tgt := 97) dX7_count_87 (by decide) (fun c_87 => ?_) (fun c_87 => ?_)
                · exact absurd c_87 (by omega)
                · refine v_aload_n C dX7_count_90 rfl ?_
                  refine v_getf C g148 hR.1 rfl dX7_count_91 ?_
                  refine v_goto C (tgt := 101) dX7_count_94 (by decide) ?_
                  refine m_put_24 C p151 hR dX7_count_101 (fun w hR hF9 => ?_)
                  have hF := hF.tr hF9
                  refine v_lconst C (v := 0) dX7_count_104 rfl ?_
                  exact v_lret C rfl dX7_count_105 (Nat.le_refl _) (Nat.le_refl _) (hPO _ _ ⟨hF, by omega, by omega, _, by rw [rcF_eq he, if_neg (by omega), if_pos (by omega)]; exact hR, fun q => by rw [rcF_eq he, if_neg (by omega), if_pos (by omega)] at q; omega, by omega⟩)
            · refine v_aload_n C dX7_count_67 rfl ?_
              refine v_callVv C (q := (RX7, TX7, 33)) (As := []) (rest := []) (c_X7_fail hR ⟨by omega, by omega⟩) (cwV 0 hts gX7_count_X7_fail rfl rfl rfl (by decide +kernel) ⟨Nat.le_of_ble_eq_true rfl, Nat.le_of_ble_eq_true rfl⟩) hR.1 rfl rfl rfl (Nat.le_of_ble_eq_true rfl) dX7_count_68 (Nat.le_of_ble_eq_true rfl) (Nat.le_of_ble_eq_true rfl) (fun w hp => ?_)
              obtain ⟨hR, hF9⟩ := hp
              have hF := hF.tr hF9
              refine v_wide (k' := 0) (z' := 0) (Nat.le_refl _) (Nat.le_refl _) ?_
              refine v_lconst C (v := 0) dX7_count_71 rfl ?_
              exact v_lret C rfl dX7_count_72 (Nat.le_refl _) (Nat.le_refl _) (hPO _ _ ⟨hF, by omega, by omega, _, by rw [rcF_eq he, if_pos (by omega)]; rw [if_pos hw1] at hR; exact hR, fun q => by rw [rcF_eq he, if_pos (by omega)] at q; omega, by omega⟩)
        · refine v_iinc C dX7_count_32 rfl sl_6_1 (by decide) rfl ?_
          refine v_goto C (tgt := 13) dX7_count_35 (by decide) ?_
          exact ih (i + 1) ⟨by omega, by omega⟩ (by rw [← hi2]; exact (scE_go (by omega) (by omega)).symm) (by omega)
  exact L13 _ av ⟨by omega, by omega⟩ rfl (Nat.lt_succ_self _)
