/-- the list with the open moment, if that has changes -/
def addM (ML : ML3) (t s : Int) (OL : List (Int × Int)) : ML3 := if OL = [] then ML else ML ++ [(t, s, OL)]
theorem addM_0 {ML : ML3} {t s : Int} : addM ML t s [] = ML := if_pos rfl
theorem addM_N {ML : ML3} {t s : Int} {OL : List (Int × Int)} (h : OL ≠ []) : addM ML t s OL = ML ++ [(t, s, OL)] := if_neg h
/-- an element gets a value: the list of changes after that -/
theorem put_list {nw wi el v x n2 : Int} {A1 S : Int → Int} {OL : List (Int × Int)} {bf pw2 vl2 bf2 : Int → Int} (hn : nw ≤ 200) (hok : okC nw A1 (-1) S OL) (hw : 0 ≤ wi ∧ wi < nw) (he : 0 ≤ el ∧ el < A1 wi) (hA : A1 wi ≤ 64) (hv : 0 ≤ v ∧ v ≤ 8) (hbf : ∀ j : Int, 0 ≤ j → j < (OL.length : Int) → bf j = S (pwL OL j)) (hp : PutR OL.length (pwL OL) (vlL OL) bf (64 * wi + el) v (S (64 * wi + el)) x n2 pw2 vl2 bf2) :
    okC nw A1 (-1) S (mkL n2 pw2 vl2) ∧ 0 ≤ n2 ∧ n2 ≤ OL.length + 1 ∧ sfold S (mkL n2 pw2 vl2) = upI (sfold S OL) (64 * wi + el) v ∧ BP x (¬ sfold S OL (64 * wi + el) = v) ∧ ∀ j : Int, 0 ≤ j → j < n2 → bf2 j = S (pw2 j) := by
  obtain ⟨hj, hs⟩ := okJ_iff.mp hok
  have hl0 : 0 ≤ (OL.length : Int) := by omega
  have hPl : (64 * wi + el) / 64 = wi ∧ (64 * wi + el) % 64 = el := ⟨by omega, by omega⟩
  -- what makes a list good
  have mk : ∀ (n : Int) (p q : Int → Int), 0 ≤ n → (∀ j : Int, 0 ≤ j → j < n → (0 ≤ p j ∧ p j < 64 * nw ∧ p j % 64 < A1 (p j / 64)) ∧ (0 ≤ q j ∧ q j ≤ 8) ∧ S (p j) ≠ q j) → (∀ i j : Int, 0 ≤ i → i < j → j < n → p i < p j) → okC nw A1 (-1) S (mkL n p q) := fun n p q h0 h1 h2 => okJ_iff.mpr ⟨fun j a b => by
      rw [mkL_len h0] at b
      rw [(mkL_p a b).1, (mkL_p a b).2]
      obtain ⟨u1, u2, u3⟩ := h1 j a b
      exact ⟨by omega, u1, u2, u3⟩, fun i j a b c => by
      rw [mkL_len h0] at c
      rw [(mkL_p a (by omega)).1, (mkL_p (by omega) c).1]
      exact h2 i j a b c⟩
  have fo : ∀ (n : Int) (p q : Int → Int), 0 ≤ n → (∀ i j : Int, 0 ≤ i → i < j → j < n → p i < p j) → (∀ j : Int, 0 ≤ j → j < n → sfold S (mkL n p q) (p j) = q j) ∧ ∀ y, (∀ j : Int, 0 ≤ j → j < n → p j ≠ y) → sfold S (mkL n p q) y = S y := fun n p q h0 h2 => ⟨fun j a b => by
      have e := sfold_at (L := mkL n p q) (S := S) (j := j) (fun i k a b c => by
        rw [mkL_len h0] at c
        rw [(mkL_p a (by omega)).1, (mkL_p (by omega) c).1]
        exact h2 i k a b c) a (by rw [mkL_len h0]; exact b)
      rw [(mkL_p a b).1, (mkL_p a b).2] at e
      exact e, fun y hy => sfold_ne fun j a b => by
      rw [mkL_len h0] at b
      rw [(mkL_p a b).1]
      exact hy j a b⟩
  have eqm : mkL OL.length (pwL OL) (vlL OL) = OL := List.ext_getElem (by have := mkL_len (n := OL.length) (p := pwL OL) (v := vlL OL) hl0; omega) (fun k h1 h2 => by
    have e1 := mkL_p (n := OL.length) (p := pwL OL) (v := vlL OL) (j := (k : Int)) (by omega) (by omega)
    have e2 := pwL_get h1
    rw [e2.1, e2.2, (pwL_get h2).1, (pwL_get h2).2] at e1
    exact Prod.ext e1.1 e1.2)
  rcases hp with ⟨i, hi, hP, ⟨c1, c2, c3, c4, c5, c6⟩ | ⟨c1, c0, c2, c3, c4, c5, c6⟩ | ⟨c1, c0, c2, c3, c4, c5, c6⟩⟩ | ⟨i, hi, hlo, hhi, ⟨c1, c2, c3, c4, c5, c6⟩ | ⟨c1, c2, c3, c4, c5, c6⟩⟩
  · subst c3; subst c4; subst c5; subst c6
    have e := sfold_at (S := S) hs hi.1 hi.2
    rw [hP] at e
    rw [eqm]
    exact ⟨hok, hl0, by omega, (upI_same (by rw [e, c1])).symm, Or.inr ⟨c2, fun g => g (by rw [e, c1])⟩, hbf⟩
  · subst c3; subst c4; subst c5; subst c6
    have e := sfold_at (S := S) hs hi.1 hi.2
    rw [hP] at e
    have ord : ∀ a b : Int, 0 ≤ a → a < b → b < (OL.length : Int) - 1 → delA (pwL OL) i a < delA (pwL OL) i b := fun a b x y z => by
      by_cases q : b < i
      · rw [delA_lo (by omega), delA_lo q]; exact hs a b x y (by omega)
      · rw [delA_hi (i := i) (j := b) (by omega)]
        by_cases q2 : a < i
        · rw [delA_lo q2]; exact hs a (b + 1) x (by omega) (by omega)
        · rw [delA_hi (by omega)]; exact hs (a + 1) (b + 1) (by omega) (by omega) (by omega)
    have hn9 : 0 ≤ (OL.length : Int) - 1 := by omega
    obtain ⟨f1, f2⟩ := fo ((OL.length : Int) - 1) (delA (pwL OL) i) (delA (vlL OL) i) hn9 ord
    refine ⟨mk _ _ _ hn9 (fun j a b => ?_) ord, hn9, by omega, funext fun y => ?_, Or.inl ⟨c2, fun g => c1 (by rw [← e, g])⟩, fun j a b => ?_⟩
    · by_cases q : j < i
      · rw [delA_lo q, delA_lo q]; have := hj j a (by omega); exact ⟨this.2.1, this.2.2.1, this.2.2.2⟩
      · rw [delA_hi (by omega), delA_hi (by omega)]; have := hj (j + 1) (by omega) (by omega); exact ⟨this.2.1, this.2.2.1, this.2.2.2⟩
    · by_cases hy : y = 64 * wi + el
      · subst hy
        rw [upI_eq, f2 _ (fun j a b g => ?_), c0]
        by_cases q : j < i
        · rw [delA_lo q] at g; have := hs j i a q hi.2; omega
        · rw [delA_hi (by omega)] at g; have := hs i (j + 1) hi.1 (by omega) (by omega); omega
      · rw [upI_ne hy]
        by_cases ex : ∃ j : Int, (0 ≤ j ∧ j < (OL.length : Int)) ∧ pwL OL j = y
        · obtain ⟨j, a, g⟩ := ex
          have e2 := sfold_at (S := S) hs a.1 a.2
          rw [g] at e2
          rw [e2]
          by_cases q : j < i
          · have := f1 j a.1 (by omega)
            rw [delA_lo q, delA_lo q, g] at this
            exact this
          · have hne : j ≠ i := fun z => hy (by rw [← g, z, hP])
            have := f1 (j - 1) (by omega) (by omega)
            rw [delA_hi (by omega), delA_hi (by omega), show j - 1 + 1 = j by omega, g] at this
            exact this
        · rw [f2 y (fun j a b g => ?_), sfold_ne (fun j a b g => ex ⟨j, ⟨a, b⟩, g⟩)]
          by_cases q : j < i
          · rw [delA_lo q] at g; exact ex ⟨j, ⟨a, by omega⟩, g⟩
          · rw [delA_hi (by omega)] at g; exact ex ⟨j + 1, ⟨by omega, by omega⟩, g⟩
    · by_cases q : j < i
      · rw [delA_lo q, delA_lo q]; exact hbf j a (by omega)
      · rw [delA_hi (by omega), delA_hi (by omega)]; exact hbf _ (by omega) (by omega)
  · subst c3; subst c4; subst c5; subst c6
    have e := sfold_at (S := S) hs hi.1 hi.2
    rw [hP] at e
    obtain ⟨f1, f2⟩ := fo (OL.length : Int) (pwL OL) (upI (vlL OL) i v) hl0 hs
    refine ⟨mk _ _ _ hl0 (fun j a b => ?_) hs, hl0, by omega, funext fun y => ?_, Or.inl ⟨c2, fun g => c1 (by rw [← e, g])⟩, fun j a b => ?_⟩
    · have := hj j a b
      by_cases q : j = i
      · subst q
        rw [upI_eq, hP]
        rw [hP] at this
        exact ⟨this.2.1, hv, fun g => c0 g.symm⟩
      · rw [upI_ne q]; exact ⟨this.2.1, this.2.2.1, this.2.2.2⟩
    · by_cases hy : y = 64 * wi + el
      · subst hy
        have := f1 i hi.1 hi.2
        rw [hP, upI_eq] at this
        rw [upI_eq, this]
      · rw [upI_ne hy]
        by_cases ex : ∃ j : Int, (0 ≤ j ∧ j < (OL.length : Int)) ∧ pwL OL j = y
        · obtain ⟨j, a, g⟩ := ex
          have e2 := sfold_at (S := S) hs a.1 a.2
          have hne : j ≠ i := fun z => hy (by rw [← g, z, hP])
          have := f1 j a.1 a.2
          rw [upI_ne hne, g] at this
          rw [g] at e2
          rw [e2, this]
        · rw [f2 y (fun j a b g => ex ⟨j, ⟨a, b⟩, g⟩), sfold_ne (fun j a b g => ex ⟨j, ⟨a, b⟩, g⟩)]
    · by_cases q : j = i
      · subst q; rw [upI_eq, hP]
      · rw [upI_ne q]; exact hbf j a b
  · subst c3; subst c4; subst c5; subst c6
    have hne : ∀ j : Int, 0 ≤ j → j < (OL.length : Int) → pwL OL j ≠ 64 * wi + el := fun j a b g => by
      by_cases q : j < i
      · have := hlo j a q; omega
      · have := hhi j (by omega) b; omega
    have e := sfold_ne (S := S) hne
    rw [eqm]
    exact ⟨hok, hl0, by omega, (upI_same (by rw [e, c1])).symm, Or.inr ⟨c2, fun g => g (by rw [e, c1])⟩, hbf⟩
  · subst c3; subst c4; subst c5; subst c6
    have hne : ∀ j : Int, 0 ≤ j → j < (OL.length : Int) → pwL OL j ≠ 64 * wi + el := fun j a b g => by
      by_cases q : j < i
      · have := hlo j a q; omega
      · have := hhi j (by omega) b; omega
    have e := sfold_ne (S := S) hne
    have ord : ∀ a b : Int, 0 ≤ a → a < b → b < (OL.length : Int) + 1 → insA (pwL OL) i (64 * wi + el) a < insA (pwL OL) i (64 * wi + el) b := fun a b x y z => by
      by_cases q : b < i
      · rw [insA_lo (by omega), insA_lo q]; exact hs a b x y (by omega)
      · by_cases q2 : b = i
        · subst q2
          rw [insA_at, insA_lo y]; exact hlo a x y
        · rw [insA_hi (i := i) (j := b) (by omega)]
          by_cases q3 : a < i
          · rw [insA_lo q3]; exact hs a (b - 1) x (by omega) (by omega)
          · by_cases q4 : a = i
            · subst q4; rw [insA_at]; exact hhi (b - 1) (by omega) (by omega)
            · rw [insA_hi (by omega)]; exact hs (a - 1) (b - 1) (by omega) (by omega) (by omega)
    have hn9 : 0 ≤ (OL.length : Int) + 1 := by omega
    obtain ⟨f1, f2⟩ := fo ((OL.length : Int) + 1) (insA (pwL OL) i (64 * wi + el)) (insA (vlL OL) i v) hn9 ord
    refine ⟨mk _ _ _ hn9 (fun j a b => ?_) ord, hn9, by omega, funext fun y => ?_, Or.inl ⟨c2, fun g => c1 (by rw [← e, g])⟩, fun j a b => ?_⟩
    · by_cases q : j < i
      · rw [insA_lo q, insA_lo q]; have := hj j a (by omega); exact ⟨this.2.1, this.2.2.1, this.2.2.2⟩
      · by_cases q2 : j = i
        · subst q2
          rw [insA_at, insA_at, hPl.1, hPl.2]
          exact ⟨⟨by omega, by omega, he.2⟩, hv, fun g => c1 g.symm⟩
        · rw [insA_hi (by omega), insA_hi (by omega)]; have := hj (j - 1) (by omega) (by omega); exact ⟨this.2.1, this.2.2.1, this.2.2.2⟩
    · by_cases hy : y = 64 * wi + el
      · subst hy
        have := f1 i hi.1 (by omega)
        rw [insA_at, insA_at] at this
        rw [upI_eq, this]
      · rw [upI_ne hy]
        by_cases ex : ∃ j : Int, (0 ≤ j ∧ j < (OL.length : Int)) ∧ pwL OL j = y
        · obtain ⟨j, a, g⟩ := ex
          have e2 := sfold_at (S := S) hs a.1 a.2
          rw [g] at e2
          rw [e2]
          by_cases q : j < i
          · have := f1 j a.1 (by omega)
            rw [insA_lo q, insA_lo q, g] at this
            exact this
          · have := f1 (j + 1) (by omega) (by omega)
            rw [insA_hi (by omega), insA_hi (by omega), show j + 1 - 1 = j by omega, g] at this
            exact this
        · rw [f2 y (fun j a b g => ?_), sfold_ne (fun j a b g => ex ⟨j, ⟨a, b⟩, g⟩)]
          by_cases q : j < i
          · rw [insA_lo q] at g; exact ex ⟨j, ⟨a, by omega⟩, g⟩
          · by_cases q2 : j = i
            · subst q2; rw [insA_at] at g; exact hy g.symm
            · rw [insA_hi (by omega)] at g; exact ex ⟨j - 1, ⟨by omega, by omega⟩, g⟩
    · by_cases q : j < i
      · rw [insA_lo q, insA_lo q]; exact hbf j a (by omega)
      · by_cases q2 : j = i
        · subst q2; rw [insA_at, insA_at]
        · rw [insA_hi (by omega), insA_hi (by omega)]; exact hbf _ (by omega) (by omega)
theorem MomAt.cg {G : GG} {w : Wd} {a : Nat} {t s pl n : Int} {pw vl bf pw' vl' bf' : Int → Int} (h : MomAt G w a t s pl n pw vl bf) (h1 : ∀ j, 0 ≤ j → j < n → pw' j = pw j) (h2 : ∀ j, 0 ≤ j → j < n → vl' j = vl j) (h3 : ∀ j, 0 ≤ j → j < n → bf' j = bf j) : MomAt G w a t s pl n pw' vl' bf' := by
  obtain ⟨lr, LL, q1, q2, q3⟩ := h
  exact ⟨lr, LL, q1, q2, fun j a b => by
    rw [h1 j a b, h2 j a b, h3 j a b]
    exact q3 j a b⟩
