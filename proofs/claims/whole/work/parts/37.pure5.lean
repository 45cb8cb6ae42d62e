/-! lists of moments, with one more at the end -/
abbrev ML3 : Type := List (Int × Int × List (Int × Int))
theorem snocI {α : Type} {P : List α → Prop} (h0 : P []) (h1 : ∀ L q, P L → P (L ++ [q])) : ∀ L, P L := fun L => by
  have h : ∀ K : List α, P K.reverse := fun K => by
    induction K with
    | nil => exact h0
    | cons x K ih => rw [List.reverse_cons]; exact h1 _ _ ih
  have := h L.reverse
  rw [List.reverse_reverse] at this
  exact this
theorem snocX {α : Type} (L : List α) : L = [] ∨ ∃ K q, L = K ++ [q] := snocI (P := fun L => L = [] ∨ ∃ K q, L = K ++ [q]) (Or.inl rfl) (fun K q _ => Or.inr ⟨K, q, rfl⟩) L
theorem sall_snoc : ∀ (ML : ML3) (S : Int → Int) (q : Int × Int × List (Int × Int)), sall S (ML ++ [q]) = sfold (sall S ML) q.2.2
  | [], _, _ => rfl
  | x :: ML, S, q => sall_snoc ML (sfold S x.2.2) q
theorem lasT_snoc : ∀ (ML : ML3) (t : Int) (q : Int × Int × List (Int × Int)), lasT t (ML ++ [q]) = q.1
  | [], _, _ => rfl
  | x :: ML, t, q => lasT_snoc ML x.1 q
theorem lasS_snoc : ∀ (ML : ML3) (t : Int) (q : Int × Int × List (Int × Int)), lasS t (ML ++ [q]) = q.2.1
  | [], _, _ => rfl
  | x :: ML, t, q => lasS_snoc ML x.2.1 q
theorem encAll_snoc : ∀ (ML : ML3) (lt ls : Int) (S : Int → Int) (q : Int × Int × List (Int × Int)), encAll lt ls S (ML ++ [q]) = encAll lt ls S ML ++ encM q.1 q.2.1 (lasT lt ML) (lasS ls ML) (sfold (sall S ML) q.2.2) (q.2.2.map Prod.fst)
  | [], _, _, _, _ => by simp [encAll, lasT, lasS, sall]
  | x :: ML, lt, ls, S, q => by
    show encM x.1 x.2.1 lt ls (sfold S x.2.2) (x.2.2.map Prod.fst) ++ encAll x.1 x.2.1 (sfold S x.2.2) (ML ++ [q]) = (encM x.1 x.2.1 lt ls (sfold S x.2.2) (x.2.2.map Prod.fst) ++ encAll x.1 x.2.1 (sfold S x.2.2) ML) ++ _
    rw [encAll_snoc, List.append_assoc]
    rfl
theorem begs_snoc : ∀ (ML : ML3) (sz lt ls : Int) (S : Int → Int) (q : Int × Int × List (Int × Int)), begs sz lt ls S (ML ++ [q]) = begs sz lt ls S ML ++ [sz + (encAll lt ls S ML).length]
  | [], sz, _, _, _, _ => by simp [begs, encAll]
  | x :: ML, sz, lt, ls, S, q => by
    show sz :: begs (sz + (encM x.1 x.2.1 lt ls (sfold S x.2.2) (x.2.2.map Prod.fst)).length) x.1 x.2.1 (sfold S x.2.2) (ML ++ [q]) = sz :: (begs (sz + (encM x.1 x.2.1 lt ls (sfold S x.2.2) (x.2.2.map Prod.fst)).length) x.1 x.2.1 (sfold S x.2.2) ML ++ _)
    rw [begs_snoc]
    show _ = sz :: (_ ++ [sz + ((encM x.1 x.2.1 lt ls (sfold S x.2.2) (x.2.2.map Prod.fst) ++ encAll x.1 x.2.1 (sfold S x.2.2) ML).length : Int)])
    rw [List.length_append, Int.natCast_add, Int.add_assoc]
theorem idxs_snoc : ∀ (ML : ML3) (m : Int) (q : Int × Int × List (Int × Int)), idxs m (ML ++ [q]) = idxs m ML ++ (q.2.2.map Prod.fst).map (fun _ => m + ML.length)
  | [], m, q => by simp [idxs]
  | x :: ML, m, q => by
    show (x.2.2.map Prod.fst).map (fun _ => m) ++ idxs (m + 1) (ML ++ [q]) = ((x.2.2.map Prod.fst).map (fun _ => m) ++ idxs (m + 1) ML) ++ _
    rw [idxs_snoc, List.append_assoc, List.length_cons, Int.natCast_add, show m + 1 + (ML.length : Int) = m + ((ML.length : Int) + ((1 : Nat) : Int)) by omega]
theorem befs_snoc : ∀ (ML : ML3) (S : Int → Int) (q : Int × Int × List (Int × Int)), befs S (ML ++ [q]) = befs S ML ++ (q.2.2.map Prod.fst).map (sall S ML)
  | [], S, q => by simp [befs, sall]
  | x :: ML, S, q => by
    show (x.2.2.map Prod.fst).map S ++ befs (sfold S x.2.2) (ML ++ [q]) = ((x.2.2.map Prod.fst).map S ++ befs (sfold S x.2.2) ML) ++ _
    rw [befs_snoc, List.append_assoc]
    rfl
theorem plas_snoc (ML : ML3) (q : Int × Int × List (Int × Int)) : plas (ML ++ [q]) = plas ML ++ q.2.2.map Prod.fst := by
  rw [plas_app]; exact congrArg _ (List.append_nil _)
theorem vals_snoc (ML : ML3) (q : Int × Int × List (Int × Int)) : vals (ML ++ [q]) = vals ML ++ q.2.2.map Prod.snd := by
  rw [vals_app]; exact congrArg _ (List.append_nil _)
theorem numC_snoc (ML : ML3) (q : Int × Int × List (Int × Int)) : numC (ML ++ [q]) = numC ML + q.2.2.length := by
  rw [numC_app]; show _ + ((q.2.2.length : Int) + 0) = _; rw [Int.add_zero]
theorem okL_snoc {nw : Int} {A1 : Int → Int} : ∀ {ML : ML3} {lt ls : Int} {S : Int → Int} {q : Int × Int × List (Int × Int)}, okL nw A1 lt ls S (ML ++ [q]) ↔ okL nw A1 lt ls S ML ∧ (0 ≤ q.1 ∧ q.1 < 1152921504606846976 ∧ 0 ≤ q.2.1 ∧ q.2.1 < 1152921504606846976 ∧ (lasT lt ML < q.1 ∨ (lasT lt ML = q.1 ∧ lasS ls ML < q.2.1)) ∧ q.2.2 ≠ [] ∧ okC nw A1 (-1) (sall S ML) q.2.2)
  | [], lt, ls, S, q => by
    show (_ ∧ True) ↔ (True ∧ _)
    rw [and_true, true_and]
    rfl
  | x :: ML, lt, ls, S, q => by
    have i := okL_snoc (nw := nw) (A1 := A1) (ML := ML) (lt := x.1) (ls := x.2.1) (S := sfold S x.2.2) (q := q)
    exact ⟨fun h => ⟨⟨h.1, (i.mp h.2).1⟩, (i.mp h.2).2⟩, fun h => ⟨h.1.1, i.mpr ⟨h.1.2, h.2⟩⟩⟩
theorem okL_las {nw : Int} {A1 : Int → Int} : ∀ {ML : ML3} {lt ls : Int} {S : Int → Int}, okL nw A1 lt ls S ML → (0 ≤ lt ∧ lt < 1152921504606846976 ∧ -1 ≤ ls ∧ ls < 1152921504606846976) → 0 ≤ lasT lt ML ∧ lasT lt ML < 1152921504606846976 ∧ -1 ≤ lasS ls ML ∧ lasS ls ML < 1152921504606846976
  | [], _, _, _, _, h => h
  | x :: ML, lt, ls, S, h, h0 => okL_las (ML := ML) h.2 ⟨h.1.1, h.1.2.1, by have := h.1.2.2.1; omega, h.1.2.2.2.1⟩
theorem okL_lt {nw : Int} {A1 : Int → Int} : ∀ {ML : ML3} {lt ls : Int} {S : Int → Int}, okL nw A1 lt ls S ML → ∀ x ∈ ML, lt < x.1 ∨ (lt = x.1 ∧ ls < x.2.1)
  | [], _, _, _, _, x, hx => nomatch hx
  | y :: ML, lt, ls, S, h, x, hx => by
    have h1 := h.1.2.2.2.2.1
    rcases List.mem_cons.mp hx with e | hx
    · rw [e]; exact h1
    · have := okL_lt h.2 x hx
      omega
theorem sall_bd {nw : Int} {A1 : Int → Int} : ∀ {ML : ML3} {lt ls : Int} {S : Int → Int}, okL nw A1 lt ls S ML → (∀ i, 0 ≤ i → i < 12800 → 0 ≤ S i ∧ S i ≤ 8) → ∀ i, 0 ≤ i → i < 12800 → 0 ≤ sall S ML i ∧ sall S ML i ≤ 8
  | [], _, _, _, _, h => h
  | x :: ML, lt, ls, S, h, h0 => sall_bd (ML := ML) (S := sfold S x.2.2) h.2 (sfold_bd h.1.2.2.2.2.2.2 h0)
theorem sall_out {nw : Int} {A1 : Int → Int} : ∀ {ML : ML3} {lt ls : Int} {S : Int → Int}, okL nw A1 lt ls S ML → (∀ q, ¬ (0 ≤ q ∧ q < 64 * nw) → S q = 0) → ∀ q, ¬ (0 ≤ q ∧ q < 64 * nw) → sall S ML q = 0
  | [], _, _, _, _, h => h
  | x :: ML, lt, ls, S, h, h0 => sall_out (ML := ML) (S := sfold S x.2.2) h.2 (sfold_out h.1.2.2.2.2.2.2 h0)
/-- the room that the values come to need -/
def gva : Int → ML3 → Int
  | c, [] => c
  | c, q :: l => gva (gvc c q.2.2) l
theorem gva_snoc : ∀ (ML : ML3) (c : Int) (q : Int × Int × List (Int × Int)), gva c (ML ++ [q]) = gvc (gva c ML) q.2.2
  | [], _, _ => rfl
  | x :: ML, c, q => gva_snoc ML (gvc c x.2.2) q
theorem gva_app : ∀ (a b : ML3) (c : Int), gva c (a ++ b) = gva (gva c a) b
  | [], _, _ => rfl
  | x :: a, b, c => gva_app a b (gvc c x.2.2)
theorem okC_pl {nw : Int} {A1 : Int → Int} {L : List (Int × Int)} {p : Int} {S : Int → Int} (h : okC nw A1 p S L) (hn : nw ≤ 200) : ∀ q ∈ L, 0 ≤ q.1 ∧ q.1 < 12800 := fun q hq => by
  have := okC_in h q hq
  omega
theorem gva_b {nw : Int} {A1 : Int → Int} (hn : nw ≤ 200) : ∀ {ML : ML3} {lt ls c : Int} {S : Int → Int}, okL nw A1 lt ls S ML → (64 ≤ c ∧ c ≤ 25600) → c ≤ gva c ML ∧ gva c ML ≤ 25600
  | [], _, _, c, _, _, h => ⟨Int.le_refl _, h.2⟩
  | x :: ML, lt, ls, c, S, h, hc => by
    have h1 := gvc_b (L := x.2.2) hc (okC_pl h.1.2.2.2.2.2.2 hn)
    have h2 := gva_b hn (c := gvc c x.2.2) h.2 ⟨by omega, h1.2⟩
    show c ≤ gva (gvc c x.2.2) ML ∧ _
    exact ⟨by omega, h2.2⟩
theorem mI_lo {ML : ML3} {q : Int × Int × List (Int × Int)} {i : Int} (h0 : 0 ≤ i) (h : i < ML.length) : mI (ML ++ [q]) i = mI ML i := by
  unfold mI
  rw [List.getElem?_append_left (by omega)]
theorem mI_at {ML : ML3} {q : Int × Int × List (Int × Int)} : mI (ML ++ [q]) ML.length = q := by
  unfold mI
  rw [show ((ML.length : Nat) : Int).toNat = ML.length by omega, List.getElem?_append_right (Nat.le_refl _), Nat.sub_self]
  rfl
theorem mI_get {ML : ML3} {k : Nat} (h : k < ML.length) : mI ML (k : Int) = ML[k] := by
  unfold mI
  rw [show ((k : Nat) : Int).toNat = k by omega, List.getElem?_eq_getElem h]
  rfl
theorem take_lo {ML : ML3} {q : Int × Int × List (Int × Int)} {i : Int} (h0 : 0 ≤ i) (h : i ≤ ML.length) : (ML ++ [q]).take i.toNat = ML.take i.toNat := List.take_append_of_le_length (by omega)
theorem take_at {ML : ML3} {q : Int × Int × List (Int × Int)} : (ML ++ [q]).take ((ML.length : Nat) : Int).toNat = ML := by
  rw [take_lo (by omega) (by omega), show ((ML.length : Nat) : Int).toNat = ML.length by omega, List.take_length]
theorem mI_last {ML : ML3} {t s : Int} (h : 0 < (ML.length : Int)) : (mI ML (ML.length - 1)).1 = lasT t ML ∧ (mI ML (ML.length - 1)).2.1 = lasS s ML := by
  rcases snocX ML with rfl | ⟨K, q, rfl⟩
  · simp at h
  · have e : ((K ++ [q]).length : Int) - 1 = (K.length : Int) := by rw [List.length_append]; show ((K.length + 1 : Nat) : Int) - 1 = _; omega
    rw [e, mI_at, lasT_snoc, lasS_snoc]
    exact ⟨rfl, rfl⟩
/-! a moment's list by its numbers -/
theorem pwL_s {q : Int × Int} {l : List (Int × Int)} {j : Int} (h : 0 < j) : pwL (q :: l) j = pwL l (j - 1) ∧ vlL (q :: l) j = vlL l (j - 1) := by
  unfold pwL vlL
  rw [show j.toNat = (j - 1).toNat + 1 by omega]
  exact ⟨rfl, rfl⟩
def okJ (nw : Int) (A1 : Int → Int) (p : Int) (S : Int → Int) (L : List (Int × Int)) : Prop := (∀ j : Int, 0 ≤ j → j < (L.length : Int) → p < pwL L j ∧ (0 ≤ pwL L j ∧ pwL L j < 64 * nw ∧ pwL L j % 64 < A1 (pwL L j / 64)) ∧ (0 ≤ vlL L j ∧ vlL L j ≤ 8) ∧ S (pwL L j) ≠ vlL L j) ∧ ∀ i j : Int, 0 ≤ i → i < j → j < (L.length : Int) → pwL L i < pwL L j
theorem okJ_iff {nw : Int} {A1 : Int → Int} : ∀ {L : List (Int × Int)} {p : Int} {S : Int → Int}, okC nw A1 p S L ↔ okJ nw A1 p S L
  | [], p, S => ⟨fun _ => ⟨fun j a b => by simp at b; omega, fun i j a b c => by simp at c; omega⟩, fun _ => trivial⟩
  | q :: l, p, S => by
    have el : ((q :: l).length : Int) = l.length + 1 := by rw [List.length_cons]; omega
    constructor
    · rintro ⟨⟨g1, g2, g3, g4, g5, g6, g7⟩, h⟩
      obtain ⟨h1, h2⟩ := okJ_iff.mp h
      refine ⟨fun j a b => ?_, fun i j a b c => ?_⟩
      · by_cases e : j = 0
        · subst e
          exact ⟨g1, ⟨g2, g3, g4⟩, ⟨g5, g6⟩, g7⟩
        · rw [(pwL_s (by omega)).1, (pwL_s (by omega)).2]
          obtain ⟨k1, k2, k3, k4⟩ := h1 (j - 1) (by omega) (by omega)
          rw [upI_ne (by omega)] at k4
          exact ⟨by omega, k2, k3, k4⟩
      · rw [(pwL_s (j := j) (by omega)).1]
        by_cases e : i = 0
        · subst e
          exact (h1 (j - 1) (by omega) (by omega)).1
        · rw [(pwL_s (j := i) (by omega)).1]
          exact h2 (i - 1) (j - 1) (by omega) (by omega) (by omega)
    · rintro ⟨h1, h2⟩
      obtain ⟨g1, ⟨g2, g3, g4⟩, ⟨g5, g6⟩, g7⟩ := h1 0 (by omega) (by omega)
      refine ⟨⟨g1, g2, g3, g4, g5, g6, g7⟩, okJ_iff.mpr ⟨fun j a b => ?_, fun i j a b c => ?_⟩⟩
      · have k := h1 (j + 1) (by omega) (by omega)
        have k5 := h2 0 (j + 1) (by omega) (by omega) (by omega)
        rw [(pwL_s (by omega)).1, (pwL_s (by omega)).2, show j + 1 - 1 = j by omega] at k
        rw [(pwL_s (j := j + 1) (by omega)).1, show j + 1 - 1 = j by omega] at k5
        have k5 : q.1 < pwL l j := k5
        obtain ⟨k1, k2, k3, k4⟩ := k
        exact ⟨k5, k2, k3, by rw [upI_ne (by omega)]; exact k4⟩
      · have k5 := h2 (i + 1) (j + 1) (by omega) (by omega) (by omega)
        rw [(pwL_s (by omega)).1, (pwL_s (by omega)).1, show i + 1 - 1 = i by omega, show j + 1 - 1 = j by omega] at k5
        exact k5
theorem okC_srt {nw : Int} {A1 : Int → Int} {L : List (Int × Int)} {S : Int → Int} (hn : nw ≤ 200) (h : okC nw A1 (-1) S L) : Srt L.length (pwL L) ∧ ∀ j : Int, 0 ≤ j → j < (L.length : Int) → 0 ≤ vlL L j ∧ vlL L j ≤ 8 := by
  obtain ⟨h1, h2⟩ := okJ_iff.mp h
  exact ⟨⟨fun j a b => ⟨(h1 j a b).2.1.1, by have := (h1 j a b).2.1.2.1; omega⟩, h2⟩, fun j a b => (h1 j a b).2.2.1⟩
theorem sfold_ne : ∀ {L : List (Int × Int)} {S : Int → Int} {q : Int}, (∀ j : Int, 0 ≤ j → j < (L.length : Int) → pwL L j ≠ q) → sfold S L q = S q
  | [], _, _, _ => rfl
  | x :: l, S, q, h => by
    have el : ((x :: l).length : Int) = l.length + 1 := by rw [List.length_cons]; omega
    show sfold (upI S x.1 x.2) l q = S q
    have h0 : x.1 ≠ q := h 0 (by omega) (by omega)
    rw [sfold_ne (fun j a b => by
      have := h (j + 1) (by omega) (by omega)
      rw [(pwL_s (by omega)).1, show j + 1 - 1 = j by omega] at this
      exact this), upI_ne (fun e => h0 e.symm)]
theorem sfold_at : ∀ {L : List (Int × Int)} {S : Int → Int} {j : Int}, (∀ i k : Int, 0 ≤ i → i < k → k < (L.length : Int) → pwL L i < pwL L k) → 0 ≤ j → j < (L.length : Int) → sfold S L (pwL L j) = vlL L j
  | [], _, j, _, a, b => by simp at b; omega
  | x :: l, S, j, h, a, b => by
    have el : ((x :: l).length : Int) = l.length + 1 := by rw [List.length_cons]; omega
    have h' : ∀ i k : Int, 0 ≤ i → i < k → k < (l.length : Int) → pwL l i < pwL l k := fun i k c d e => by
      have := h (i + 1) (k + 1) (by omega) (by omega) (by omega)
      rw [(pwL_s (by omega)).1, (pwL_s (by omega)).1, show i + 1 - 1 = i by omega, show k + 1 - 1 = k by omega] at this
      exact this
    show sfold (upI S x.1 x.2) l (pwL (x :: l) j) = _
    by_cases e : j = 0
    · subst e
      show sfold (upI S x.1 x.2) l x.1 = x.2
      rw [sfold_ne (fun i c d => by
        have := h 0 (i + 1) (by omega) (by omega) (by omega)
        rw [(pwL_s (j := i + 1) (by omega)).1, show i + 1 - 1 = i by omega] at this
        have this : x.1 < pwL l i := this
        omega), upI_eq]
    · rw [(pwL_s (by omega)).1, (pwL_s (by omega)).2]
      exact sfold_at h' (by omega) (by omega)
def mkL (n : Int) (p v : Int → Int) : List (Int × Int) := (List.range n.toNat).map (fun j : Nat => (p (j : Int), v (j : Int)))
theorem mkL_len {n : Int} {p v : Int → Int} (h : 0 ≤ n) : ((mkL n p v).length : Int) = n := by
  unfold mkL
  rw [List.length_map, List.length_range]
  omega
theorem mkL_p {n : Int} {p v : Int → Int} {j : Int} (h0 : 0 ≤ j) (h : j < n) : pwL (mkL n p v) j = p j ∧ vlL (mkL n p v) j = v j := by
  unfold pwL vlL mkL
  rw [List.getElem?_map, List.getElem?_range (by omega), show j = ((j.toNat : Nat) : Int) by omega]
  exact ⟨rfl, rfl⟩
theorem encL2_eq : ∀ {L : List (Int × Int)} {w : Int} {f : Int → Int}, (∀ q ∈ L, f q.1 = q.2) → encL2 w L = encL f w (L.map Prod.fst)
  | [], _, _, _ => rfl
  | q :: l, w, f, h => by
    show c7 (q.1 / 64 - w) ++ (c7 (16 * (q.1 % 64) + q.2) ++ encL2 (q.1 / 64) l) = c7 (q.1 / 64 - w) ++ c7 (16 * (q.1 % 64) + f q.1) ++ encL f (q.1 / 64) (l.map Prod.fst)
    rw [h q List.mem_cons_self, encL2_eq (fun x hx => h x (List.mem_cons_of_mem _ hx)), List.append_assoc]
theorem encM2_eq {nw : Int} {A1 : Int → Int} {L : List (Int × Int)} {S : Int → Int} {t s lt ls : Int} (h : okC nw A1 (-1) S L) : encM2 t s lt ls L = encM t s lt ls (sfold S L) (L.map Prod.fst) := by
  have h2 := sfold_map h
  rw [List.map_map, List.map_inj_left] at h2
  unfold encM2 encM
  rw [encL2_eq h2, List.length_map, List.append_assoc]
theorem holds_get {f : Int → Int} : ∀ {L : List Int} {a : Int}, holds f a L → ∀ k (hk : k < L.length), f (a + (k : Int)) = L[k]
  | [], _, _, k, hk => by simp at hk
  | x :: l, a, h, 0, _ => by rw [show a + ((0 : Nat) : Int) = a by omega]; exact h.1
  | x :: l, a, h, k + 1, hk => by
    have := holds_get h.2 k (by simpa using hk)
    rw [show a + ((k + 1 : Nat) : Int) = a + 1 + (k : Int) by omega, this]
    rfl
theorem holds_map {α : Type} {f : Int → Int} {L : List α} {F : α → Int} (h : holds f 0 (L.map F)) {k : Nat} (hk : k < L.length) : f (k : Int) = F L[k] := by
  have := holds_get h k (by rw [List.length_map]; exact hk)
  rw [List.getElem_map, Int.zero_add] at this
  exact this
/-! places, changes before -/
def oF (ML : ML3) (i : Int) : Int := numC (ML.take i.toNat)
def plF (ML : ML3) (i : Int) : Int := (encAll 0 (-1) (fun _ => 0) (ML.take i.toNat)).length
def bfF (ML : ML3) (i j : Int) : Int := sall (fun _ => 0) (ML.take i.toNat) (pwL (mI ML i).2.2 j)
theorem oF_up {ML : ML3} {i : Int} (h0 : 0 ≤ i) (h : i < ML.length) : oF ML (i + 1) = oF ML i + (mI ML i).2.2.length := by
  obtain ⟨k, rfl⟩ : ∃ k : Nat, i = (k : Int) := ⟨i.toNat, by omega⟩
  unfold oF
  rw [show ((k : Nat) : Int).toNat = k by omega, show ((k : Int) + 1).toNat = k + 1 by omega, List.take_succ_eq_append_getElem (by omega), numC_snoc, mI_get (by omega)]
theorem oF_0 (ML : ML3) : oF ML 0 = 0 := rfl
theorem oF_n (ML : ML3) : oF ML ML.length = numC ML := by
  unfold oF
  rw [show ((ML.length : Nat) : Int).toNat = ML.length by omega, List.take_length]
theorem oF_mono {ML : ML3} {i : Int} (h0 : 0 ≤ i) : ∀ {d : Nat}, i + d ≤ ML.length → oF ML i ≤ oF ML (i + d)
  | 0, _ => by rw [show i + ((0 : Nat) : Int) = i by omega]; exact Int.le_refl _
  | d + 1, h => by
    have := oF_mono (ML := ML) h0 (d := d) (by omega)
    have e := oF_up (ML := ML) (i := i + d) (by omega) (by omega)
    rw [show i + ((d + 1 : Nat) : Int) = i + (d : Int) + 1 by omega, e]
    omega
theorem oF_le {ML : ML3} {i j : Int} (h0 : 0 ≤ i) (h : i ≤ j) (hj : j ≤ ML.length) : oF ML i ≤ oF ML j := by
  have := oF_mono (ML := ML) h0 (d := (j - i).toNat) (by omega)
  rw [show i + (((j - i).toNat : Nat) : Int) = j by omega] at this
  exact this
theorem oF_ge {ML : ML3} {i : Int} : 0 ≤ oF ML i := numC_0 _
theorem flatF {ML : ML3} {k : Int} (h0 : 0 ≤ k) (h : k < numC ML) : ∃ i j : Int, (0 ≤ i ∧ i < ML.length) ∧ (0 ≤ j ∧ j < ((mI ML i).2.2.length : Int)) ∧ k = oF ML i + j := by
  have key : ∀ n : Nat, (n : Int) ≤ ML.length → k < oF ML n → ∃ i j : Int, (0 ≤ i ∧ i < ML.length) ∧ (0 ≤ j ∧ j < ((mI ML i).2.2.length : Int)) ∧ k = oF ML i + j := by
    intro n
    induction n with
    | zero => intro _ hk; rw [show ((0 : Nat) : Int) = 0 by omega, oF_0] at hk; omega
    | succ n ih =>
      intro hn hk
      by_cases q : k < oF ML n
      · exact ih (by omega) q
      · have e := oF_up (ML := ML) (i := n) (by omega) (by omega)
        rw [show ((n + 1 : Nat) : Int) = (n : Int) + 1 by omega, e] at hk
        exact ⟨n, k - oF ML n, ⟨by omega, by omega⟩, ⟨by omega, by omega⟩, by omega⟩
  exact key ML.length (Int.le_refl _) (by rw [oF_n]; exact h)
/-- the reference's lists hold a list of moments -/
def RelM (ML : ML3) (nm nc sz : Int) (A3 A9 A10 A11 A13 A14 A15 A16 A18 : Int → Int) : Prop := (nm = ML.length ∧ nc = numC ML ∧ sz = (encAll 0 (-1) (fun _ => 0) ML).length ∧ A3 = sall (fun _ => 0) ML) ∧ holds A9 0 (ML.map fun q => q.1) ∧ holds A10 0 (ML.map fun q => q.2.1) ∧ holds A11 0 (begs 0 0 (-1) (fun _ => 0) ML) ∧ holds A13 0 (idxs 0 ML) ∧ holds A14 0 (plas ML) ∧ holds A15 0 (befs (fun _ => 0) ML) ∧ holds A16 0 (vals ML) ∧ holds A18 0 (encAll 0 (-1) (fun _ => 0) ML)
theorem holds_seg {α : Type} {f : Int → Int} {L : List α} {F : α → Int} {a : Int} (h : holds f a (L.map F)) {k : Nat} (hk : k < L.length) : f (a + (k : Int)) = F L[k] := by
  have := holds_get h k (by rw [List.length_map]; exact hk)
  rw [List.getElem_map] at this
  exact this
theorem pwL_get {L : List (Int × Int)} {k : Nat} (h : k < L.length) : pwL L k = L[k].1 ∧ vlL L k = L[k].2 := by
  unfold pwL vlL
  rw [show ((k : Nat) : Int).toNat = k by omega, List.getElem?_eq_getElem h]
  exact ⟨rfl, rfl⟩
/-- what the flat lists hold of change j of moment i -/
theorem flatT : ∀ (ML : ML3) {A9 A10 A11 A13 A14 A15 A16 : Int → Int}, holds A9 0 (ML.map fun q => q.1) → holds A10 0 (ML.map fun q => q.2.1) → holds A11 0 (begs 0 0 (-1) (fun _ => 0) ML) → holds A13 0 (idxs 0 ML) → holds A14 0 (plas ML) → holds A15 0 (befs (fun _ => 0) ML) → holds A16 0 (vals ML) →
    ∀ i : Int, 0 ≤ i → i < ML.length → (A9 i = (mI ML i).1 ∧ A10 i = (mI ML i).2.1 ∧ A11 i = plF ML i) ∧ ∀ j : Int, 0 ≤ j → j < ((mI ML i).2.2.length : Int) → A13 (oF ML i + j) = i ∧ A14 (oF ML i + j) = pwL (mI ML i).2.2 j ∧ A15 (oF ML i + j) = bfF ML i j ∧ A16 (oF ML i + j) = vlL (mI ML i).2.2 j := by
  refine snocI ?_ ?_
  · intro A9 A10 A11 A13 A14 A15 A16 _ _ _ _ _ _ _ i h0 h1
    simp at h1; omega
  · intro ML q ih A9 A10 A11 A13 A14 A15 A16 e9 e10 e11 e13 e14 e15 e16 i h0 h1
    rw [List.map_append, holds_app, Int.zero_add, List.length_map] at e9 e10
    rw [begs_snoc, holds_app, Int.zero_add] at e11
    rw [idxs_snoc, holds_app, Int.zero_add] at e13
    rw [plas_snoc, holds_app, Int.zero_add, plas_len] at e14
    rw [befs_snoc, holds_app, Int.zero_add] at e15
    rw [vals_snoc, holds_app, Int.zero_add, vals_len] at e16
    have el : ((ML ++ [q]).length : Int) = ML.length + 1 := by rw [List.length_append]; rfl
    have l11 : ∀ (M : ML3) (sz lt ls : Int) (S : Int → Int), (begs sz lt ls S M).length = M.length := by
      intro M
      induction M with
      | nil => intro _ _ _ _; rfl
      | cons x M ihM => intro sz lt ls S; show (begs _ _ _ _ M).length + 1 = M.length + 1; rw [ihM]
    have l13 : ∀ (M : ML3) (m : Int), ((idxs m M).length : Int) = numC M := by
      intro M
      induction M with
      | nil => intro _; rfl
      | cons x M ihM => intro m; show ((_ ++ idxs (m + 1) M).length : Int) = (x.2.2.length : Int) + numC M; rw [List.length_append, List.length_map, List.length_map, ← ihM (m + 1)]; omega
    have l15 : ∀ (M : ML3) (S : Int → Int), ((befs S M).length : Int) = numC M := by
      intro M
      induction M with
      | nil => intro _; rfl
      | cons x M ihM => intro S; show ((_ ++ befs _ M).length : Int) = (x.2.2.length : Int) + numC M; rw [List.length_append, List.length_map, List.length_map, ← ihM (sfold S x.2.2)]; omega
    rw [l11] at e11
    rw [l13, List.map_map] at e13
    rw [l15, List.map_map] at e15
    by_cases c : i < ML.length
    · obtain ⟨k1, k2⟩ := ih e9.1 e10.1 e11.1 e13.1 e14.1 e15.1 e16.1 i h0 c
      have ep : plF (ML ++ [q]) i = plF ML i := by unfold plF; rw [take_lo h0 (by omega)]
      have eo : oF (ML ++ [q]) i = oF ML i := by unfold oF; rw [take_lo h0 (by omega)]
      have eb : ∀ j, bfF (ML ++ [q]) i j = bfF ML i j := fun j => by unfold bfF; rw [take_lo h0 (by omega), mI_lo h0 c]
      rw [mI_lo h0 c, ep, eo]
      exact ⟨k1, fun j a b => by rw [eb]; exact k2 j a b⟩
    · have ei : i = ML.length := by omega
      subst ei
      have eo : oF (ML ++ [q]) ML.length = numC ML := by unfold oF; rw [take_at]
      rw [mI_at, eo]
      refine ⟨⟨e9.2.1, e10.2.1, ?_⟩, fun j a b => ?_⟩
      · unfold plF
        rw [take_at, e11.2.1, Int.zero_add]
      · obtain ⟨k, rfl⟩ : ∃ k : Nat, j = (k : Int) := ⟨j.toNat, by omega⟩
        have hk : k < q.2.2.length := by omega
        refine ⟨(holds_seg e13.2 hk).trans (Int.zero_add _), ?_, ?_, ?_⟩
        · rw [(pwL_get hk).1]; exact holds_seg e14.2 hk
        · unfold bfF
          rw [take_at, mI_at, (pwL_get hk).1]
          exact holds_seg e15.2 hk
        · rw [(pwL_get hk).2]; exact holds_seg e16.2 hk
theorem RelM.flat {ML : ML3} {nm nc sz : Int} {A3 A9 A10 A11 A13 A14 A15 A16 A18 : Int → Int} (h : RelM ML nm nc sz A3 A9 A10 A11 A13 A14 A15 A16 A18) : ∀ i : Int, 0 ≤ i → i < ML.length → (A9 i = (mI ML i).1 ∧ A10 i = (mI ML i).2.1 ∧ A11 i = plF ML i) ∧ ∀ j : Int, 0 ≤ j → j < ((mI ML i).2.2.length : Int) → A13 (oF ML i + j) = i ∧ A14 (oF ML i + j) = pwL (mI ML i).2.2 j ∧ A15 (oF ML i + j) = bfF ML i j ∧ A16 (oF ML i + j) = vlL (mI ML i).2.2 j := by
  obtain ⟨-, e9, e10, e11, e13, e14, e15, e16, -⟩ := h
  exact flatT ML e9 e10 e11 e13 e14 e15 e16
theorem cnt_seg {f : Int → Int} {i a b : Int} : ∀ (n : Nat), (∀ k : Int, 0 ≤ k → k < n → (f k = i ↔ a ≤ k ∧ k < b)) → 0 ≤ a → a ≤ b → cnt f i n = (if (n : Int) ≤ a then 0 else if (n : Int) ≤ b then n - a else b - a)
  | 0, _, h0, _ => by rw [if_pos (by omega)]; rfl
  | n + 1, h, h0, h1 => by
    have ih := cnt_seg (f := f) (i := i) (a := a) (b := b) n (fun k x y => h k x (by omega)) h0 h1
    have hn := h n (by omega) (by omega)
    show (if f n = i then cnt f i n + 1 else cnt f i n) = _
    rw [ih]
    by_cases c : a ≤ (n : Int) ∧ (n : Int) < b
    · rw [if_pos (hn.mpr c), if_neg (show ¬ (((n + 1 : Nat) : Int) ≤ a) by omega), if_pos (show ((n + 1 : Nat) : Int) ≤ b by omega)]
      by_cases c2 : (n : Int) ≤ a
      · rw [if_pos c2]; omega
      · rw [if_neg c2, if_pos (by omega)]; omega
    · rw [if_neg (fun g => c (hn.mp g))]
      by_cases c2 : (n : Int) ≤ a
      · rw [if_pos c2]
        by_cases c3 : ((n + 1 : Nat) : Int) ≤ a
        · rw [if_pos c3]
        · rw [if_neg c3]
          by_cases c4 : ((n + 1 : Nat) : Int) ≤ b
          · omega
          · rw [if_neg c4]; omega
      · rw [if_neg c2, if_neg (show ¬ (((n + 1 : Nat) : Int) ≤ a) by omega)]
        by_cases c3 : (n : Int) ≤ b
        · rw [if_pos c3, if_neg (show ¬ (((n + 1 : Nat) : Int) ≤ b) by omega)]; omega
        · rw [if_neg c3, if_neg (show ¬ (((n + 1 : Nat) : Int) ≤ b) by omega)]
theorem RelM.ix {ML : ML3} {nm nc sz : Int} {A3 A9 A10 A11 A13 A14 A15 A16 A18 : Int → Int} (h : RelM ML nm nc sz A3 A9 A10 A11 A13 A14 A15 A16 A18) {i : Int} (h0 : 0 ≤ i) (h1 : i < ML.length) : ∀ k : Int, 0 ≤ k → k < nc → (A13 k = i ↔ oF ML i ≤ k ∧ k < oF ML i + ((mI ML i).2.2.length : Int)) := fun k a b => by
  have hc := h.1.2.1
  have hf := h.flat
  obtain ⟨i2, j2, k1, k2, rfl⟩ := flatF (ML := ML) a (by omega)
  have e := ((hf i2 k1.1 k1.2).2 j2 k2.1 k2.2).1
  rw [e]
  constructor
  · rintro rfl; omega
  · intro g
    by_cases c : i2 < i
    · have u := oF_up (ML := ML) k1.1 k1.2
      have := oF_le (ML := ML) (i := i2 + 1) (j := i) (by omega) (by omega) (by omega)
      omega
    · by_cases c2 : i < i2
      · have u := oF_up (ML := ML) h0 h1
        have := oF_le (ML := ML) (i := i + 1) (j := i2) (by omega) (by omega) (by omega)
        omega
      · omega
theorem RelM.cnt {ML : ML3} {nm nc sz : Int} {A3 A9 A10 A11 A13 A14 A15 A16 A18 : Int → Int} (h : RelM ML nm nc sz A3 A9 A10 A11 A13 A14 A15 A16 A18) {i : Int} (h0 : 0 ≤ i) (h1 : i < ML.length) : cnt A13 i nc.toNat = ((mI ML i).2.2.length : Int) ∧ oF ML i + ((mI ML i).2.2.length : Int) ≤ nc := by
  have hc := h.1.2.1
  have hx := h.ix h0 h1
  have u := oF_up (ML := ML) h0 h1
  have u2 := oF_le (ML := ML) (i := i + 1) (j := ML.length) (by omega) (by omega) (by omega)
  rw [oF_n] at u2
  have g0 := oF_ge (ML := ML) (i := i)
  have := cnt_seg (f := A13) (i := i) (a := oF ML i) (b := oF ML i + ((mI ML i).2.2.length : Int)) nc.toNat (fun k a b => hx k a (by omega)) g0 (by omega)
  rw [this]
  refine ⟨?_, by omega⟩
  by_cases c : ((nc.toNat : Nat) : Int) ≤ oF ML i
  · rw [if_pos c]; omega
  · rw [if_neg c]
    by_cases c2 : ((nc.toNat : Nat) : Int) ≤ oF ML i + ((mI ML i).2.2.length : Int)
    · rw [if_pos c2]; omega
    · rw [if_neg c2]; omega
theorem nxV_spec {f g : Int → Int} {m w : Int} : ∀ (n : Nat) (a : Int), (∃ k : Int, (a ≤ k ∧ k < a + n) ∧ (m ≤ f k ∧ g k / 64 = w) ∧ (∀ k' : Int, a ≤ k' → k' < k → ¬ (m ≤ f k' ∧ g k' / 64 = w)) ∧ nxV f g m w n a = f k) ∨ ((∀ k : Int, a ≤ k → k < a + n → ¬ (m ≤ f k ∧ g k / 64 = w)) ∧ nxV f g m w n a = -1)
  | 0, a => Or.inr ⟨fun k x y => by omega, rfl⟩
  | n + 1, a => by
    by_cases c : m ≤ f a ∧ g a / 64 = w
    · exact Or.inl ⟨a, ⟨by omega, by omega⟩, c, fun k' x y => by omega, if_pos c⟩
    · have e : nxV f g m w (n + 1) a = nxV f g m w n (a + 1) := if_neg c
      rw [e]
      rcases nxV_spec n (a + 1) with ⟨k, h1, h2, h3, h4⟩ | ⟨h1, h2⟩
      · refine Or.inl ⟨k, ⟨by omega, by omega⟩, h2, fun k' x y => ?_, h4⟩
        by_cases q : k' = a
        · rw [q]; exact c
        · exact h3 k' (by omega) y
      · refine Or.inr ⟨fun k x y => ?_, h2⟩
        by_cases q : k = a
        · rw [q]; exact c
        · exact h1 k (by omega) (by omega)
/-- the first moment from m on that has a change of a wire -/
def NxP (ML : ML3) (m w x : Int) : Prop := (∃ i : Int, (m ≤ i ∧ 0 ≤ i ∧ i < ML.length) ∧ (∃ j : Int, 0 ≤ j ∧ j < ((mI ML i).2.2.length : Int) ∧ pwL (mI ML i).2.2 j / 64 = w) ∧ (∀ i' : Int, m ≤ i' → i' < i → ¬ ∃ j : Int, 0 ≤ j ∧ j < ((mI ML i').2.2.length : Int) ∧ pwL (mI ML i').2.2 j / 64 = w) ∧ x = i) ∨ ((∀ i : Int, m ≤ i → i < ML.length → ¬ ∃ j : Int, 0 ≤ j ∧ j < ((mI ML i).2.2.length : Int) ∧ pwL (mI ML i).2.2 j / 64 = w) ∧ x = -1)
theorem RelM.nx {ML : ML3} {nm nc sz : Int} {A3 A9 A10 A11 A13 A14 A15 A16 A18 : Int → Int} (h : RelM ML nm nc sz A3 A9 A10 A11 A13 A14 A15 A16 A18) {m w x : Int} (hm : 0 ≤ m) (hx : NxP ML m w x) : x = nxV A13 A14 m w nc.toNat 0 := by
  have hc := h.1.2.1
  have hf := h.flat
  have n0 := numC_0 ML
  rcases nxV_spec (f := A13) (g := A14) (m := m) (w := w) nc.toNat 0 with ⟨k, h1, h2, h3, h4⟩ | ⟨h1, h2⟩
  · rw [h4]
    obtain ⟨i2, j2, k1, k2, rfl⟩ := flatF (ML := ML) (k := k) h1.1 (by omega)
    obtain ⟨e1, e2, -⟩ := (hf i2 k1.1 k1.2).2 j2 k2.1 k2.2
    rw [e1]
    rw [e1, e2] at h2
    rcases hx with ⟨i, a1, ⟨j, b1, b2, b3⟩, a3, rfl⟩ | ⟨a1, -⟩
    · by_cases c : i2 < x
      · exact absurd ⟨j2, k2.1, k2.2, h2.2⟩ (a3 i2 h2.1 c)
      · by_cases c2 : x < i2
        · obtain ⟨f1, f2, -⟩ := (hf x a1.2.1 a1.2.2).2 j b1 b2
          have u := oF_up (ML := ML) a1.2.1 a1.2.2
          have := oF_le (ML := ML) (i := x + 1) (j := i2) (by omega) (by omega) (by omega)
          have g0 := oF_ge (ML := ML) (i := x)
          exact absurd ⟨by rw [f1]; exact a1.1, by rw [f2]; exact b3⟩ (h3 (oF ML x + j) (by omega) (by omega))
        · omega
    · exact absurd ⟨j2, k2.1, k2.2, h2.2⟩ (a1 i2 h2.1 k1.2)
  · rw [h2]
    rcases hx with ⟨i, a1, ⟨j, b1, b2, b3⟩, a3, rfl⟩ | ⟨-, a1⟩
    · obtain ⟨f1, f2, -⟩ := (hf x a1.2.1 a1.2.2).2 j b1 b2
      have u := oF_up (ML := ML) a1.2.1 a1.2.2
      have u2 := oF_le (ML := ML) (i := x + 1) (j := ML.length) (by omega) (by omega) (by omega)
      rw [oF_n] at u2
      have g0 := oF_ge (ML := ML) (i := x)
      exact absurd ⟨by rw [f1]; exact a1.1, by rw [f2]; exact b3⟩ (h1 (oF ML x + j) (by omega) (by omega))
    · exact a1
theorem vbL_snoc {nw : Int} {A1 : Int → Int} {t s P : Int} : ∀ {ML : ML3} {q : Int × Int × List (Int × Int)} {lt ls v : Int} {S : Int → Int}, okL nw A1 lt ls S (ML ++ [q]) → vbL t s P (ML ++ [q]) v = if t < q.1 ∨ (q.1 = t ∧ s < q.2.1) then vbL t s P ML v else mvL q.2.2 P (vbL t s P ML v)
  | [], q, lt, ls, v, S, h => rfl
  | x :: ML, q, lt, ls, v, S, h => by
    have h2 : okL nw A1 x.1 x.2.1 (sfold S x.2.2) (ML ++ [q]) := h.2
    have hq := okL_lt h2 q (List.mem_append_right _ (List.mem_singleton.mpr rfl))
    show vbL t s P (x :: (ML ++ [q])) v = _
    by_cases c : t < x.1 ∨ (x.1 = t ∧ s < x.2.1)
    · rw [vbL_stop c, vbL_stop c, if_pos (by omega)]
    · rw [vbL_go c, vbL_go c]
      exact vbL_snoc h2
theorem atV_seg {A9 A10 A13 A14 A16 : Int → Int} {t s key m : Int} {n0 : Nat} {L : List (Int × Int)} (hs : ∀ i k : Int, 0 ≤ i → i < k → k < (L.length : Int) → pwL L i < pwL L k) (hl : ∀ j : Int, 0 ≤ j → j < (L.length : Int) → A13 ((n0 : Int) + j) = m ∧ A14 ((n0 : Int) + j) = pwL L j ∧ A16 ((n0 : Int) + j) = vlL L j) : ∀ d : Nat, d ≤ L.length →
    ((t < A9 m ∨ (A9 m = t ∧ s < A10 m)) → atV A9 A10 A13 A14 A16 t s key (n0 + d) = atV A9 A10 A13 A14 A16 t s key n0) ∧ (¬ (t < A9 m ∨ (A9 m = t ∧ s < A10 m)) → ((∀ j : Int, 0 ≤ j → j < d → pwL L j ≠ key) → atV A9 A10 A13 A14 A16 t s key (n0 + d) = atV A9 A10 A13 A14 A16 t s key n0) ∧ ∀ j : Int, 0 ≤ j → j < d → pwL L j = key → atV A9 A10 A13 A14 A16 t s key (n0 + d) = vlL L j)
  | 0, _ => ⟨fun _ => rfl, fun _ => ⟨fun _ => rfl, fun j a b => by omega⟩⟩
  | d + 1, hd => by
    obtain ⟨i1, i2⟩ := atV_seg (A9 := A9) (A10 := A10) (t := t) (s := s) (key := key) hs hl d (by omega)
    obtain ⟨l1, l2, l3⟩ := hl d (by omega) (by omega)
    have e : atV A9 A10 A13 A14 A16 t s key (n0 + (d + 1)) = if A14 ((n0 + d : Nat) : Int) = key ∧ ¬ (t < A9 (A13 ((n0 + d : Nat) : Int)) ∨ (A9 (A13 ((n0 + d : Nat) : Int)) = t ∧ s < A10 (A13 ((n0 + d : Nat) : Int)))) then A16 ((n0 + d : Nat) : Int) else atV A9 A10 A13 A14 A16 t s key (n0 + d) := rfl
    rw [show ((n0 + d : Nat) : Int) = (n0 : Int) + (d : Int) by omega, l1, l2, l3] at e
    rw [e]
    refine ⟨fun g => ?_, fun g => ⟨fun g2 => ?_, fun j a b g2 => ?_⟩⟩
    · rw [if_neg (fun k => k.2 g)]; exact i1 g
    · rw [if_neg (fun k => g2 d (by omega) (by omega) k.1)]; exact (i2 g).1 (fun j a b => g2 j a (by omega))
    · by_cases c : j = d
      · subst c; rw [if_pos ⟨g2, g⟩]
      · have := hs j d a (by omega) (by omega)
        rw [if_neg (fun k => by have := k.1; omega)]
        exact (i2 g).2 j a (by omega) g2
theorem atT {nw : Int} {A1 : Int → Int} {t s key : Int} (hn : nw ≤ 200) : ∀ (ML : ML3) {A9 A10 A11 A13 A14 A15 A16 : Int → Int}, okL nw A1 0 (-1) (fun _ => 0) ML → holds A9 0 (ML.map fun q => q.1) → holds A10 0 (ML.map fun q => q.2.1) → holds A11 0 (begs 0 0 (-1) (fun _ => 0) ML) → holds A13 0 (idxs 0 ML) → holds A14 0 (plas ML) → holds A15 0 (befs (fun _ => 0) ML) → holds A16 0 (vals ML) → atV A9 A10 A13 A14 A16 t s key (numC ML).toNat = vbL t s key ML 0 := by
  refine snocI ?_ ?_
  · intro A9 A10 A11 A13 A14 A15 A16 _ _ _ _ _ _ _ _; rfl
  · intro ML q ih A9 A10 A11 A13 A14 A15 A16 hok e9 e10 e11 e13 e14 e15 e16
    have hf := flatT (ML ++ [q]) e9 e10 e11 e13 e14 e15 e16 ML.length (by omega) (by rw [List.length_append]; show (ML.length : Int) < ((ML.length + 1 : Nat) : Int); omega)
    have eo : oF (ML ++ [q]) ML.length = numC ML := by unfold oF; rw [take_at]
    rw [mI_at, eo] at hf
    obtain ⟨⟨f1, f2, -⟩, f3⟩ := hf
    have hok2 := okL_snoc.mp hok
    rw [List.map_append, holds_app] at e9 e10
    rw [begs_snoc, holds_app] at e11
    rw [idxs_snoc, holds_app] at e13
    rw [plas_snoc, holds_app] at e14
    rw [befs_snoc, holds_app] at e15
    rw [vals_snoc, holds_app] at e16
    have hi := ih hok2.1 e9.1 e10.1 e11.1 e13.1 e14.1 e15.1 e16.1
    have hj := okJ_iff.mp hok2.2.2.2.2.2.2.2
    have n0 := numC_0 ML
    have hsg := atV_seg (A9 := A9) (A10 := A10) (A13 := A13) (A14 := A14) (A16 := A16) (t := t) (s := s) (key := key) (m := ML.length) (n0 := (numC ML).toNat) (L := q.2.2) hj.2 (fun j a b => by
      rw [show (((numC ML).toNat : Nat) : Int) = numC ML by omega]
      obtain ⟨u1, u2, -, u4⟩ := f3 j a b
      exact ⟨u1, u2, u4⟩) q.2.2.length (Nat.le_refl _)
    rw [f1, f2, hi] at hsg
    rw [numC_snoc, show (numC ML + (q.2.2.length : Int)).toNat = (numC ML).toNat + q.2.2.length by omega, vbL_snoc hok]
    by_cases c : t < q.1 ∨ (q.1 = t ∧ s < q.2.1)
    · rw [if_pos c]; exact hsg.1 c
    · rw [if_neg c]
      obtain ⟨s1, s2⟩ := hsg.2 c
      by_cases c2 : ∃ j : Int, (0 ≤ j ∧ j < (q.2.2.length : Int)) ∧ pwL q.2.2 j = key
      · obtain ⟨j, a, b⟩ := c2
        rw [s2 j a.1 a.2 b, mvL_at hj.2 a.1 a.2 b]
      · have c3 : ∀ j : Int, 0 ≤ j → j < (q.2.2.length : Int) → pwL q.2.2 j ≠ key := fun j a b e => c2 ⟨j, ⟨a, b⟩, e⟩
        rw [s1 c3, mvL_no c3]
theorem RelM.at {nw : Int} {A1 : Int → Int} {ML : ML3} {nm nc sz t s key : Int} {A3 A9 A10 A11 A13 A14 A15 A16 A18 : Int → Int} (h : RelM ML nm nc sz A3 A9 A10 A11 A13 A14 A15 A16 A18) (hn : nw ≤ 200) (hok : okL nw A1 0 (-1) (fun _ => 0) ML) : atV A9 A10 A13 A14 A16 t s key nc.toNat = vbL t s key ML 0 := by
  obtain ⟨⟨-, hc, -⟩, e9, e10, e11, e13, e14, e15, e16, -⟩ := h
  rw [hc]
  exact atT hn ML hok e9 e10 e11 e13 e14 e15 e16
theorem RelM.las {ML : ML3} {nm nc sz : Int} {A3 A9 A10 A11 A13 A14 A15 A16 A18 : Int → Int} (h : RelM ML nm nc sz A3 A9 A10 A11 A13 A14 A15 A16 A18) : (if nm = 0 then 0 else A9 (nm - 1)) = lasT 0 ML ∧ (if nm = 0 then -1 else A10 (nm - 1)) = lasS (-1) ML := by
  have hn := h.1.1
  by_cases c : nm = 0
  · rw [if_pos c, if_pos c]
    have : ML = [] := List.length_eq_zero_iff.mp (by omega)
    subst this
    exact ⟨rfl, rfl⟩
  · rw [if_neg c, if_neg c]
    have hf := (h.flat (nm - 1) (by omega) (by omega)).1
    have hl := mI_last (ML := ML) (t := 0) (s := -1) (by omega)
    rw [hf.1, hf.2.1, hn]
    exact hl
theorem holds_snoc {f : Int → Int} {L : List Int} {n x : Int} (h : holds f 0 L) (hn : n = L.length) : holds (upI f n x) 0 (L ++ [x]) := by
  subst hn
  rw [holds_app, Int.zero_add]
  exact ⟨holds_upI h (Int.le_refl _), upI_eq, trivial⟩
theorem holds_apP {f : Int → Int} {L X : List Int} {n : Int} (h : holds f 0 L) (hn : n = L.length) : holds (putL f n X) 0 (L ++ X) := by
  subst hn
  rw [holds_app, Int.zero_add]
  exact ⟨holds_putL h (Int.le_refl _), holds_put _ _ _⟩
theorem idxs_len : ∀ (M : ML3) (m : Int), ((idxs m M).length : Int) = numC M
  | [], _ => rfl
  | x :: M, m => by show ((_ ++ idxs (m + 1) M).length : Int) = (x.2.2.length : Int) + numC M; rw [List.length_append, List.length_map, List.length_map, ← idxs_len M (m + 1)]; omega
theorem befs_len : ∀ (M : ML3) (S : Int → Int), ((befs S M).length : Int) = numC M
  | [], _ => rfl
  | x :: M, S => by show ((_ ++ befs _ M).length : Int) = (x.2.2.length : Int) + numC M; rw [List.length_append, List.length_map, List.length_map, ← befs_len M (sfold S x.2.2)]; omega
theorem begs_len : ∀ (M : ML3) (sz lt ls : Int) (S : Int → Int), (begs sz lt ls S M).length = M.length
  | [], _, _, _, _ => rfl
  | x :: M, sz, lt, ls, S => by show (begs _ _ _ _ M).length + 1 = M.length + 1; rw [begs_len]
/-- the open moment comes to the list -/
theorem RelM.fin {nw : Int} {A1 : Int → Int} {ML : ML3} {OL : List (Int × Int)} {ti sp nm nc sz nm2 nc2 sz2 : Int} {A3 A4 A9 A10 A11 A13 A14 A15 A16 A18 B3 B9 B10 B11 B13 B14 B15 B16 B18 : Int → Int} (h : RelM ML nm nc sz A3 A9 A10 A11 A13 A14 A15 A16 A18) (h4 : A4 = sfold A3 OL) (hnw : 0 ≤ nw) (hok : okC nw A1 (-1) A3 OL) (hf : FinR ti sp nw nm nc sz A3 A4 A9 A10 A11 A13 A14 A15 A16 A18 nm2 nc2 sz2 B3 B9 B10 B11 B13 B14 B15 B16 B18) :
    (OL = [] ∧ RelM ML nm2 nc2 sz2 B3 B9 B10 B11 B13 B14 B15 B16 B18) ∨ (OL ≠ [] ∧ RelM (ML ++ [(ti, sp, OL)]) nm2 nc2 sz2 B3 B9 B10 B11 B13 B14 B15 B16 B18) := by
  have hlas := h.las
  obtain ⟨⟨k1, k2, k3, k4⟩, e9, e10, e11, e13, e14, e15, e16, e18⟩ := id h
  have hd : drF A4 A3 (64 * nw).toNat 0 = OL.map Prod.fst := by rw [h4]; exact drF_L hnw hok
  unfold FinR at hf
  rw [hd, hlas.1, hlas.2] at hf
  rcases hf with ⟨g, rfl, rfl, rfl, rfl, rfl, rfl, rfl, rfl, rfl, rfl, rfl, rfl⟩ | ⟨g, rfl, rfl, rfl, rfl, rfl, rfl, rfl, rfl, rfl, rfl, rfl, rfl⟩
  · exact Or.inl ⟨List.map_eq_nil_iff.mp g, h⟩
  · refine Or.inr ⟨fun e => g (by rw [e]; rfl), ?_⟩
    have es : stl A3 A4 (64 * nw) = sfold A3 OL := by rw [h4]; exact stl_sfold hok
    refine ⟨⟨by rw [k1, List.length_append]; rfl, by rw [k2, numC_snoc, List.length_map], by rw [k3, encAll_snoc, List.length_append, h4, k4]; exact (Int.natCast_add _ _).symm, by rw [es, sall_snoc, k4]⟩, ?_, ?_, ?_, ?_, ?_, ?_, ?_, ?_⟩
    · rw [List.map_append]; exact holds_snoc e9 (by rw [List.length_map]; exact k1)
    · rw [List.map_append]; exact holds_snoc e10 (by rw [List.length_map]; exact k1)
    · rw [begs_snoc, Int.zero_add, ← k3]; exact holds_snoc e11 (by rw [begs_len]; exact k1)
    · rw [idxs_snoc, Int.zero_add, ← k1]; exact holds_apP e13 (by rw [idxs_len]; exact k2)
    · rw [plas_snoc]; exact holds_apP e14 (by rw [plas_len]; exact k2)
    · rw [befs_snoc, ← k4]; exact holds_apP e15 (by rw [befs_len]; exact k2)
    · rw [vals_snoc, h4, sfold_map hok]; exact holds_apP e16 (by rw [vals_len]; exact k2)
    · rw [encAll_snoc, h4, k4]; exact holds_apP e18 k3
