theorem sk_2_1 {x0 x1 : Option Value} : stK [x0, x1] 1 = [x0, none] := rfl
theorem sk_4_3 {x0 x1 x2 x3 : Option Value} : stK [x0, x1, x2, x3] 3 = [x0, x1, x2, none] := rfl
theorem sl_4_1 {x0 x1 x2 x3 : Option Value} {v : Value} : stL [x0, x1, x2, x3] 1 v = [x0, some v, x2, x3] := rfl
/-- a moment's changes as they may stand in a row: rising places behind p, other values than before -/
def okC (nw : Int) (A1 : Int → Int) : Int → (Int → Int) → List (Int × Int) → Prop
  | _, _, [] => True
  | p, S, q :: l => (p < q.1 ∧ 0 ≤ q.1 ∧ q.1 < 64 * nw ∧ q.1 % 64 < A1 (q.1 / 64) ∧ 0 ≤ q.2 ∧ q.2 ≤ 8 ∧ S q.1 ≠ q.2) ∧ okC nw A1 q.1 (upI S q.1 q.2) l
def okL (nw : Int) (A1 : Int → Int) : Int → Int → (Int → Int) → List (Int × Int × List (Int × Int)) → Prop
  | _, _, _, [] => True
  | lt, ls, S, q :: l => (0 ≤ q.1 ∧ q.1 < 1152921504606846976 ∧ 0 ≤ q.2.1 ∧ q.2.1 < 1152921504606846976 ∧ (lt < q.1 ∨ (lt = q.1 ∧ ls < q.2.1)) ∧ q.2.2 ≠ [] ∧ okC nw A1 (-1) S q.2.2) ∧ okL nw A1 q.1 q.2.1 (sfold S q.2.2) l
theorem pch_ok {T : Int → Int} {N nw : Int} {A1 : Int → Int} (h1 : ∀ i, 0 ≤ i → i < nw → 1 ≤ A1 i ∧ A1 i ≤ 64) : ∀ (k : Nat) (n a p : Int) (S : Int → Int), (N - a).toNat ≤ k → 0 ≤ a → a ≤ N → -1 ≤ p → (pch T N nw A1 n a p S).1 = -1 →
    a + 2 * ((pch T N nw A1 n a p S).2.2.length : Int) ≤ (pch T N nw A1 n a p S).2.1 ∧ (pch T N nw A1 n a p S).2.1 ≤ N ∧ okC nw A1 p S (pch T N nw A1 n a p S).2.2 ∧ (0 < n → (pch T N nw A1 n a p S).2.2 ≠ []) := by
  intro k
  induction k with
  | zero =>
    intro n a p S hk h0 hN hp hf
    by_cases hn : n ≤ 0
    · rw [pch_0 hn]; exact ⟨by simp, hN, trivial, fun g => absurd g (by omega)⟩
    · exfalso
      by_cases c1 : rcF T N a = -1
      · have := rc_ok h0 hN c1; omega
      · exact c1 ((pch_f1 hn c1).symm.trans hf)
  | succ k ih =>
    intro n a p S hk h0 hN hp hf
    by_cases hn : n ≤ 0
    · rw [pch_0 hn]; exact ⟨by simp, hN, trivial, fun g => absurd g (by omega)⟩
    · by_cases c1 : rcF T N a = -1
      · have r1 := rc_ok h0 hN c1
        obtain ⟨q, hq⟩ : ∃ q : Int, q = (if p < 0 then 0 else p / 64) := ⟨_, rfl⟩
        have hq0 : 0 ≤ q := by
          rw [hq]
          by_cases g : p < 0
          · rw [if_pos g]; omega
          · rw [if_neg g]; omega
        by_cases c2 : rcV T N a + q < nw
        · by_cases c3 : rcF T N (rcN T N a) = -1
          · have r2 := rc_ok (T := T) (N := N) (a := rcN T N a) (by omega) r1.2.1 c3
            by_cases c4 : rcV T N (rcN T N a) / 16 < A1 (rcV T N a + q) ∧ rcV T N (rcN T N a) % 16 < 9 ∧ p < 64 * (rcV T N a + q) + rcV T N (rcN T N a) / 16 ∧ S (64 * (rcV T N a + q) + rcV T N (rcN T N a) / 16) ≠ rcV T N (rcN T N a) % 16
            · have e := pch_go (S := S) h0 hN hn c1 rfl hq rfl rfl rfl c2 c3 c4
              have hA := h1 (rcV T N a + q) (by omega) c2
              rw [e] at hf
              have r := ih (n - 1) (rcN T N (rcN T N a)) (64 * (rcV T N a + q) + rcV T N (rcN T N a) / 16) (upI S (64 * (rcV T N a + q) + rcV T N (rcN T N a) / 16) (rcV T N (rcN T N a) % 16)) (by omega) (by omega) r2.2.1 (by omega) hf
              rw [e]
              refine ⟨?_, r.2.1, ⟨⟨c4.2.2.1, by omega, by omega, ?_, by omega, by omega, c4.2.2.2⟩, r.2.2.1⟩, fun _ g => nomatch g⟩
              · simp only [List.length_cons]
                have := r.1
                omega
              · show (64 * (rcV T N a + q) + rcV T N (rcN T N a) / 16) % 64 < A1 ((64 * (rcV T N a + q) + rcV T N (rcN T N a) / 16) / 64)
                rw [show (64 * (rcV T N a + q) + rcV T N (rcN T N a) / 16) / 64 = rcV T N a + q by omega]
                omega
            · have := (pch_f4 (S := S) hn c1 rfl hq rfl rfl c2 c3 c4).symm.trans hf; omega
          · exact absurd ((pch_f3 (S := S) hn c1 rfl hq rfl c2 c3).symm.trans hf) c3
        · have := (pch_f2 (A1 := A1) (S := S) hn c1 rfl hq (by omega)).symm.trans hf; omega
      · exact absurd ((pch_f1 hn c1).symm.trans hf) c1
theorem pmT_ok {T : Int → Int} {N nw : Int} {A1 : Int → Int} (h1 : ∀ i, 0 ≤ i → i < nw → 1 ≤ A1 i ∧ A1 i ≤ 64) {a t s : Int} {S : Int → Int} (h0 : 0 ≤ a) (hN : a ≤ N) (hf : (pmT T N nw A1 a t s S).1 = -1) :
    a + 1 + 2 * ((pmT T N nw A1 a t s S).2.2.2.2.length : Int) ≤ (pmT T N nw A1 a t s S).2.1 ∧ (pmT T N nw A1 a t s S).2.1 ≤ N ∧ (pmT T N nw A1 a t s S).2.2.1 = t ∧ (pmT T N nw A1 a t s S).2.2.2.1 = s ∧ okC nw A1 (-1) S (pmT T N nw A1 a t s S).2.2.2.2 ∧ (pmT T N nw A1 a t s S).2.2.2.2 ≠ [] := by
  unfold pmT at hf ⊢
  by_cases c1 : rcF T N a = -1
  · rw [if_neg (fun g => g c1)] at hf ⊢
    have r1 := rc_ok h0 hN c1
    by_cases c2 : rcV T N a = 0
    · rw [if_pos c2] at hf; simp at hf; omega
    · rw [if_neg c2] at hf ⊢
      have r := pch_ok h1 (N - rcN T N a).toNat (rcV T N a) (rcN T N a) (-1) S (Nat.le_refl _) (by omega) r1.2.1 (by omega) hf
      have := r.1
      exact ⟨by show a + 1 + 2 * ((pch T N nw A1 (rcV T N a) (rcN T N a) (-1) S).2.2.length : Int) ≤ (pch T N nw A1 (rcV T N a) (rcN T N a) (-1) S).2.1; omega, r.2.1, rfl, rfl, r.2.2.1, r.2.2.2 (by omega)⟩
  · rw [if_pos c1] at hf; exact absurd hf c1
theorem pmo_ok {T : Int → Int} {N nw : Int} {A1 : Int → Int} (h1 : ∀ i, 0 ≤ i → i < nw → 1 ≤ A1 i ∧ A1 i ≤ 64) {a t s : Int} {S : Int → Int} (h0 : 0 ≤ a) (hN : a ≤ N) (ht : 0 ≤ t ∧ t < 1152921504606846976) (hs : -1 ≤ s ∧ s < 1152921504606846976) (hf : (pmo T N nw A1 a t s S).1 = -1) :
    a + 2 + 2 * ((pmo T N nw A1 a t s S).2.2.2.2.length : Int) ≤ (pmo T N nw A1 a t s S).2.1 ∧ (pmo T N nw A1 a t s S).2.1 ≤ N ∧
    (0 ≤ (pmo T N nw A1 a t s S).2.2.1 ∧ (pmo T N nw A1 a t s S).2.2.1 < 1152921504606846976 ∧ 0 ≤ (pmo T N nw A1 a t s S).2.2.2.1 ∧ (pmo T N nw A1 a t s S).2.2.2.1 < 1152921504606846976 ∧
    (t < (pmo T N nw A1 a t s S).2.2.1 ∨ (t = (pmo T N nw A1 a t s S).2.2.1 ∧ s < (pmo T N nw A1 a t s S).2.2.2.1)) ∧ (pmo T N nw A1 a t s S).2.2.2.2 ≠ [] ∧ okC nw A1 (-1) S (pmo T N nw A1 a t s S).2.2.2.2) := by
  unfold pmo at hf ⊢
  by_cases c1 : rcF T N a = -1
  · rw [if_neg (fun g => g c1)] at hf ⊢
    have r1 := rc_ok h0 hN c1
    by_cases c2 : rcV T N a / 2 = 0 ∨ 1152921504606846976 ≤ (if rcV T N a % 2 = 1 then t else t + rcV T N a / 2) ∨ 1152921504606846976 ≤ (if rcV T N a % 2 = 1 then s + rcV T N a / 2 else s)
    · rw [if_pos c2] at hf; simp at hf; omega
    · rw [if_neg c2] at hf ⊢
      by_cases c3 : rcV T N a % 2 = 1
      · rw [if_pos c3] at hf ⊢
        rw [if_pos c3, if_pos c3] at c2
        have r := pmT_ok h1 (by omega) r1.2.1 hf
        rw [r.2.2.1, r.2.2.2.1]
        have := r.1
        exact ⟨by omega, r.2.1, by omega, by omega, by omega, by omega, by omega, r.2.2.2.2.2, r.2.2.2.2.1⟩
      · rw [if_neg c3] at hf ⊢
        rw [if_neg c3, if_neg c3] at c2
        by_cases c4 : rcF T N (rcN T N a) = -1
        · rw [if_neg (fun g => g c4)] at hf ⊢
          have r2 := rc_ok (T := T) (N := N) (a := rcN T N a) (by omega) r1.2.1 c4
          by_cases c5 : 1152921504606846976 ≤ rcV T N (rcN T N a)
          · rw [if_pos c5] at hf; simp at hf; omega
          · rw [if_neg c5] at hf ⊢
            have r := pmT_ok h1 (by omega) r2.2.1 hf
            rw [r.2.2.1, r.2.2.2.1]
            have := r.1
            exact ⟨by omega, r.2.1, by omega, by omega, by omega, by omega, by omega, r.2.2.2.2.2, r.2.2.2.2.1⟩
        · rw [if_pos c4] at hf; exact absurd hf c4
  · rw [if_pos c1] at hf; exact absurd hf c1
/-- a whole tape -/
def pro (T : Int → Int) (N nw : Int) (A1 : Int → Int) (a t s : Int) (S : Int → Int) : Int × List (Int × Int × List (Int × Int)) :=
  if h : N ≤ a then (-1, [])
  else if (pmo T N nw A1 a t s S).1 ≠ -1 then ((pmo T N nw A1 a t s S).1, [])
  else if h2 : a < (pmo T N nw A1 a t s S).2.1 then
    ((pro T N nw A1 (pmo T N nw A1 a t s S).2.1 (pmo T N nw A1 a t s S).2.2.1 (pmo T N nw A1 a t s S).2.2.2.1 (sfold S (pmo T N nw A1 a t s S).2.2.2.2)).1,
     ((pmo T N nw A1 a t s S).2.2.1, (pmo T N nw A1 a t s S).2.2.2.1, (pmo T N nw A1 a t s S).2.2.2.2) ::
     (pro T N nw A1 (pmo T N nw A1 a t s S).2.1 (pmo T N nw A1 a t s S).2.2.1 (pmo T N nw A1 a t s S).2.2.2.1 (sfold S (pmo T N nw A1 a t s S).2.2.2.2)).2)
  else (-2, [])
termination_by (N - a).toNat
decreasing_by all_goals omega
theorem pro_0 {T : Int → Int} {N nw a t s : Int} {A1 S : Int → Int} (h : N ≤ a) : pro T N nw A1 a t s S = (-1, []) := by rw [pro, dif_pos h]
theorem pro_f {T : Int → Int} {N nw a t s : Int} {A1 S : Int → Int} (h : ¬ N ≤ a) (hf : (pmo T N nw A1 a t s S).1 ≠ -1) : (pro T N nw A1 a t s S).1 = (pmo T N nw A1 a t s S).1 := by rw [pro, dif_neg h, if_pos hf]
theorem pro_go {T : Int → Int} {N nw a t s : Int} {A1 S : Int → Int} (h : ¬ N ≤ a) (hf : (pmo T N nw A1 a t s S).1 = -1) (h2 : a < (pmo T N nw A1 a t s S).2.1) {R : Int × Int × Int × Int × List (Int × Int)} (hR : R = pmo T N nw A1 a t s S) :
    pro T N nw A1 a t s S = ((pro T N nw A1 R.2.1 R.2.2.1 R.2.2.2.1 (sfold S R.2.2.2.2)).1, (R.2.2.1, R.2.2.2.1, R.2.2.2.2) :: (pro T N nw A1 R.2.1 R.2.2.1 R.2.2.2.1 (sfold S R.2.2.2.2)).2) := by
  subst hR
  rw [pro, dif_neg h, if_neg (fun g => g hf), dif_pos h2]
/-- how many changes there are, and how many counts at the least -/
def numC : List (Int × Int × List (Int × Int)) → Int
  | [] => 0
  | q :: l => q.2.2.length + numC l
theorem numC_0 : ∀ l, 0 ≤ numC l
  | [] => Int.le_refl _
  | q :: l => by have := numC_0 l; unfold numC; omega
theorem pro_ok {T : Int → Int} {N nw : Int} {A1 : Int → Int} (h1 : ∀ i, 0 ≤ i → i < nw → 1 ≤ A1 i ∧ A1 i ≤ 64) : ∀ (k : Nat) (a t s : Int) (S : Int → Int), (N - a).toNat ≤ k → 0 ≤ a → a ≤ N → (0 ≤ t ∧ t < 1152921504606846976) → (-1 ≤ s ∧ s < 1152921504606846976) → (pro T N nw A1 a t s S).1 = -1 →
    okL nw A1 t s S (pro T N nw A1 a t s S).2 ∧ a + 2 * ((pro T N nw A1 a t s S).2.length : Int) + 2 * numC (pro T N nw A1 a t s S).2 ≤ N := by
  intro k
  induction k with
  | zero =>
    intro a t s S hk h0 hN ht hs hf
    rw [pro_0 (by omega)]
    exact ⟨trivial, by simp [numC]; omega⟩
  | succ k ih =>
    intro a t s S hk h0 hN ht hs hf
    by_cases c0 : N ≤ a
    · rw [pro_0 c0]; exact ⟨trivial, by simp [numC]; omega⟩
    · by_cases c1 : (pmo T N nw A1 a t s S).1 = -1
      · have r := pmo_ok h1 h0 hN ht hs c1
        have e := pro_go c0 c1 (by omega) rfl
        rw [e] at hf
        obtain ⟨r1, r2, r3, r4, r5, r6, r7, r8, r9⟩ := r
        have i := ih (pmo T N nw A1 a t s S).2.1 (pmo T N nw A1 a t s S).2.2.1 (pmo T N nw A1 a t s S).2.2.2.1 (sfold S (pmo T N nw A1 a t s S).2.2.2.2) (by omega) (by omega) r2 ⟨r3, r4⟩ ⟨by omega, r6⟩ hf
        rw [e]
        refine ⟨⟨⟨r3, r4, r5, r6, r7, r8, r9⟩, i.1⟩, ?_⟩
        simp only [List.length_cons, numC]
        have := i.2
        omega
      · exact absurd ((pro_f c0 c1).symm.trans hf) c1
/-- what a list of moments makes of the rows -/
def sall (S : Int → Int) : List (Int × Int × List (Int × Int)) → (Int → Int)
  | [] => S
  | q :: l => sall (sfold S q.2.2) l
def encAll : Int → Int → (Int → Int) → List (Int × Int × List (Int × Int)) → List Int
  | _, _, _, [] => []
  | lt, ls, S, q :: l => encM q.1 q.2.1 lt ls (sfold S q.2.2) (q.2.2.map Prod.fst) ++ encAll q.1 q.2.1 (sfold S q.2.2) l
def begs : Int → Int → Int → (Int → Int) → List (Int × Int × List (Int × Int)) → List Int
  | _, _, _, _, [] => []
  | sz, lt, ls, S, q :: l => sz :: begs (sz + (encM q.1 q.2.1 lt ls (sfold S q.2.2) (q.2.2.map Prod.fst)).length) q.1 q.2.1 (sfold S q.2.2) l
def idxs : Int → List (Int × Int × List (Int × Int)) → List Int
  | _, [] => []
  | m, q :: l => (q.2.2.map Prod.fst).map (fun _ => m) ++ idxs (m + 1) l
def plas : List (Int × Int × List (Int × Int)) → List Int
  | [] => []
  | q :: l => q.2.2.map Prod.fst ++ plas l
def vals : List (Int × Int × List (Int × Int)) → List Int
  | [] => []
  | q :: l => q.2.2.map Prod.snd ++ vals l
def befs (S : Int → Int) : List (Int × Int × List (Int × Int)) → List Int
  | [] => []
  | q :: l => (q.2.2.map Prod.fst).map S ++ befs (sfold S q.2.2) l
/-- the last moment -/
def lasT (t : Int) : List (Int × Int × List (Int × Int)) → Int
  | [] => t
  | q :: l => lasT q.1 l
def lasS (s : Int) : List (Int × Int × List (Int × Int)) → Int
  | [] => s
  | q :: l => lasS q.2.1 l
/-- a row holds a list from a on -/
def holds (f : Int → Int) : Int → List Int → Prop
  | _, [] => True
  | a, x :: l => f a = x ∧ holds f (a + 1) l
theorem holds_app {f : Int → Int} {a : Int} {x y : List Int} : holds f a (x ++ y) ↔ holds f a x ∧ holds f (a + x.length) y := by
  induction x generalizing a with
  | nil => simp [holds]
  | cons u x ih =>
    show (f a = u ∧ holds f (a + 1) (x ++ y)) ↔ (f a = u ∧ holds f (a + 1) x) ∧ holds f (a + ((u :: x).length : Nat)) y
    rw [ih, show a + 1 + (x.length : Int) = a + ((u :: x).length : Nat) by simp only [List.length_cons]; omega, and_assoc]
theorem holds_congr {f g : Int → Int} {a : Int} {x : List Int} (h : holds f a x) (hg : ∀ i, a ≤ i → i < a + x.length → g i = f i) : holds g a x := by
  induction x generalizing a with
  | nil => trivial
  | cons u x ih => exact ⟨(hg a (by omega) (by simp only [List.length_cons]; omega)).trans h.1, ih h.2 (fun i h1 h2 => hg i (by omega) (by simp only [List.length_cons]; omega))⟩
theorem holds_put (f : Int → Int) (a : Int) (x : List Int) : holds (putL f a x) a x := by
  induction x generalizing f a with
  | nil => trivial
  | cons u x ih =>
    refine ⟨?_, ih _ _⟩
    show putL (upI f a u) (a + 1) x a = u
    rw [putL_lo (by omega), upI_eq]
theorem sfold_no {nw : Int} {A1 : Int → Int} : ∀ {L : List (Int × Int)} {p : Int} {S S' : Int → Int} {q : Int}, okC nw A1 p S' L → (q ≤ p ∨ ¬ (0 ≤ q ∧ q < 64 * nw)) → sfold S L q = S q
  | [], _, _, _, _, _, _ => rfl
  | x :: L, p, S, S', q, h, hq => by
    show sfold (upI S x.1 x.2) L q = S q
    obtain ⟨⟨g1, g2, g3, -⟩, h⟩ := h
    rw [sfold_no h (by omega), upI_ne (by omega)]
theorem drF_sfold {nw : Int} {A1 : Int → Int} : ∀ {L : List (Int × Int)} {p : Int} {S : Int → Int} {n : Nat} {b : Int}, okC nw A1 p S L → p < b → b + n = 64 * nw → (∀ x ∈ L.head?, b ≤ x.1) → drF (sfold S L) S n b = L.map Prod.fst
  | [], _, S, n, b, _, _, _, _ => by
    have : ∀ (n : Nat) (b : Int), drF (sfold S []) S n b = [] := by
      intro n
      induction n with
      | zero => intro b; rfl
      | succ n ih => intro b; exact (drF_eq (f := sfold S []) (g := S) (n := n) (p := b) rfl).trans (ih (b + 1))
    exact this n b
  | x :: L, p, S, n, b, h, hb, hn, hh => by
    have hx : b ≤ x.1 := hh x (by simp)
    obtain ⟨⟨g1, g2, g3, g4, g5, g6, g7⟩, h⟩ := h
    induction n generalizing b with
    | zero => omega
    | succ n ih =>
      by_cases e : b = x.1
      · have e1 : sfold S (x :: L) b = x.2 := by
          show sfold (upI S x.1 x.2) L b = x.2
          rw [sfold_no h (by omega), e, upI_eq]
        rw [drF_ne (by rw [e1, e]; exact fun g => g7 g.symm)]
        have e2 : drF (sfold S (x :: L)) S n (b + 1) = drF (sfold (upI S x.1 x.2) L) (upI S x.1 x.2) n (b + 1) := drF_congr (fun q h1 h2 => by
          show sfold (upI S x.1 x.2) L q = S q ↔ _
          rw [upI_ne (show q ≠ x.1 by omega)])
        rw [e2, drF_sfold h (by omega) (by omega) (fun y hy => ?_), e]
        · rfl
        · cases L with
          | nil => simp at hy
          | cons z L =>
            simp at hy
            subst hy
            have := h.1.1
            omega
      · have e1 : sfold S (x :: L) b = S b := by
          show sfold (upI S x.1 x.2) L b = S b
          rw [sfold_no h (by omega), upI_ne (by omega)]
        rw [drF_eq e1]
        exact ih (b := b + 1) (by omega) (by omega) (fun y hy => by simp at hy; subst hy; omega) (by omega)
theorem sfold_map {nw : Int} {A1 : Int → Int} : ∀ {L : List (Int × Int)} {p : Int} {S : Int → Int}, okC nw A1 p S L → (L.map Prod.fst).map (sfold S L) = L.map Prod.snd
  | [], _, _, _ => rfl
  | x :: L, p, S, h => by
    obtain ⟨⟨g1, g2, g3, g4, g5, g6, g7⟩, h⟩ := h
    show sfold (upI S x.1 x.2) L x.1 :: (L.map Prod.fst).map (sfold (upI S x.1 x.2) L) = x.2 :: L.map Prod.snd
    rw [sfold_map h, sfold_no h (by omega), upI_eq]
theorem sfold_bd {nw : Int} {A1 : Int → Int} : ∀ {L : List (Int × Int)} {p : Int} {S S' : Int → Int}, okC nw A1 p S' L → (∀ i, 0 ≤ i → i < 12800 → 0 ≤ S i ∧ S i ≤ 8) → ∀ i, 0 ≤ i → i < 12800 → 0 ≤ sfold S L i ∧ sfold S L i ≤ 8
  | [], _, _, _, _, hb, i, a, b => hb i a b
  | x :: L, p, S, S', h, hb, i, a, b => by
    obtain ⟨⟨g1, g2, g3, g4, g5, g6, g7⟩, h⟩ := h
    refine sfold_bd (S := upI S x.1 x.2) h (fun j c d => ?_) i a b
    unfold upI
    by_cases e : j = x.1
    · rw [if_pos e]; omega
    · rw [if_neg e]; exact hb j c d
theorem stl_sfold {nw : Int} {A1 : Int → Int} {L : List (Int × Int)} {p : Int} {S S' : Int → Int} (h : okC nw A1 p S' L) : stl S (sfold S L) (64 * nw) = sfold S L := funext fun q => by
  unfold stl
  by_cases e : 0 ≤ q ∧ q < 64 * nw
  · rw [if_pos e]
  · rw [if_neg e, sfold_no h (Or.inr e)]
theorem sfold_out {nw : Int} {A1 : Int → Int} {L : List (Int × Int)} {p : Int} {S S' : Int → Int} (h : okC nw A1 p S' L) (hz : ∀ q, ¬ (0 ≤ q ∧ q < 64 * nw) → S q = 0) : ∀ q, ¬ (0 ≤ q ∧ q < 64 * nw) → sfold S L q = 0 := fun q e => by rw [sfold_no h (Or.inr e), hz q e]
theorem okC_lo {nw : Int} {A1 : Int → Int} {L : List (Int × Int)} {p : Int} {S : Int → Int} (h : okC nw A1 p S L) : ∀ x ∈ L.head?, 0 ≤ x.1 := by
  cases L with
  | nil => intro x hx; simp at hx
  | cons y L =>
    intro x hx
    simp at hx
    subst hx
    exact h.1.2.1
theorem drF_L {nw : Int} {A1 : Int → Int} {L : List (Int × Int)} {S : Int → Int} (hnw : 0 ≤ nw) (h : okC nw A1 (-1) S L) : drF (sfold S L) S (64 * nw).toNat 0 = L.map Prod.fst :=
  drF_sfold h (by omega) (by omega) (okC_lo h)
theorem okC_in {nw : Int} {A1 : Int → Int} : ∀ {L : List (Int × Int)} {p : Int} {S : Int → Int}, okC nw A1 p S L → ∀ x ∈ L, 0 ≤ x.1 ∧ x.1 < 64 * nw
  | [], _, _, _, x, hx => nomatch hx
  | y :: L, p, S, h, x, hx => by
    rcases List.mem_cons.mp hx with e | hx
    · rw [e]; exact ⟨h.1.2.1, h.1.2.2.1⟩
    · exact okC_in h.2 x hx
def zrU (f : Int → Int) (n : Int) : Int → Int := fun q => if 0 ≤ q ∧ q < n then 0 else f q
theorem zrU_0 (f : Int → Int) : zrU f 0 = f := funext fun q => if_neg (by omega)
theorem zrU_up {f : Int → Int} {n : Int} (h : 0 ≤ n) : upI (zrU f n) n 0 = zrU f (n + 1) := funext fun q => by
  unfold upI zrU
  by_cases g : q = n
  · rw [if_pos g, if_pos ⟨by omega, by omega⟩]
  · rw [if_neg g]
    by_cases g2 : 0 ≤ q ∧ q < n
    · rw [if_pos g2, if_pos ⟨by omega, by omega⟩]
    · rw [if_neg g2, if_neg (by omega)]
theorem zrU_all {f : Int → Int} {n : Int} (h : ∀ q, ¬ (0 ≤ q ∧ q < n) → f q = 0) : zrU f n = (fun _ => 0) := funext fun q => by
  unfold zrU
  by_cases g : 0 ≤ q ∧ q < n
  · rw [if_pos g]
  · rw [if_neg g]; exact h q g
theorem numC_app : ∀ a b : List (Int × Int × List (Int × Int)), numC (a ++ b) = numC a + numC b
  | [], b => by simp [numC]
  | x :: a, b => by show _ + numC (a ++ b) = _ + numC a + numC b; rw [numC_app a b]; omega
theorem plas_app : ∀ a b : List (Int × Int × List (Int × Int)), plas (a ++ b) = plas a ++ plas b
  | [], b => rfl
  | x :: a, b => by show _ ++ plas (a ++ b) = (_ ++ plas a) ++ plas b; rw [plas_app a b, List.append_assoc]
theorem vals_app : ∀ a b : List (Int × Int × List (Int × Int)), vals (a ++ b) = vals a ++ vals b
  | [], b => rfl
  | x :: a, b => by show _ ++ vals (a ++ b) = (_ ++ vals a) ++ vals b; rw [vals_app a b, List.append_assoc]
theorem plas_len : ∀ a : List (Int × Int × List (Int × Int)), ((plas a).length : Int) = numC a
  | [] => rfl
  | x :: a => by show ((_ ++ plas a).length : Int) = _ + numC a; rw [List.length_append, List.length_map, ← plas_len a]; omega
theorem vals_len : ∀ a : List (Int × Int × List (Int × Int)), ((vals a).length : Int) = numC a
  | [] => rfl
  | x :: a => by show ((_ ++ vals a).length : Int) = _ + numC a; rw [List.length_append, List.length_map, ← vals_len a]; omega
theorem holds_upI {f : Int → Int} {i x : Int} {L : List Int} (h : holds f 0 L) (hi : (L.length : Int) ≤ i) : holds (upI f i x) 0 L := holds_congr h (fun j a b => upI_ne (by omega))
theorem holds_putL {f : Int → Int} {i : Int} {L X : List Int} (h : holds f 0 L) (hi : (L.length : Int) ≤ i) : holds (putL f i X) 0 L := holds_congr h (fun j a b => putL_lo (by omega))
theorem c7_9 {v : Int} (h : v < 9223372036854775808) : (c7 v).length ≤ 9 := c7_le 8 v (by
  have : (128 : Int) * 128 ^ 8 = 9223372036854775808 := by decide +kernel
  omega)
theorem encL_len {nw : Int} {A1 : Int → Int} : ∀ {L : List (Int × Int)} {p : Int} {S S' : Int → Int} {w : Int}, okC nw A1 p S' L → nw ≤ 200 → (0 ≤ w ∧ 64 * w ≤ p ∨ w = 0 ∧ p = -1) → (∀ x ∈ L, 0 ≤ S x.1 ∧ S x.1 ≤ 8) → (encL S w (L.map Prod.fst)).length ≤ 18 * L.length
  | [], _, _, _, _, _, _, _, _ => Nat.le_refl _
  | x :: L, p, S, S', w, h, hn, hw, hS => by
    obtain ⟨⟨g1, g2, g3, -⟩, h⟩ := h
    show (c7 (x.1 / 64 - w) ++ c7 (16 * (x.1 % 64) + S x.1) ++ encL S (x.1 / 64) (L.map Prod.fst)).length ≤ 18 * (L.length + 1)
    have hx := hS x List.mem_cons_self
    have i := encL_len (w := x.1 / 64) h hn (Or.inl ⟨by omega, by omega⟩) (fun y hy => hS y (List.mem_cons_of_mem _ hy))
    have a := c7_9 (v := x.1 / 64 - w) (by omega)
    have b := c7_9 (v := 16 * (x.1 % 64) + S x.1) (by omega)
    rw [List.length_append, List.length_append]
    omega
theorem okC_val {nw : Int} {A1 : Int → Int} : ∀ {L : List (Int × Int)} {p : Int} {S : Int → Int}, okC nw A1 p S L → ∀ x ∈ L, 0 ≤ sfold S L x.1 ∧ sfold S L x.1 ≤ 8
  | [], _, _, _, x, hx => nomatch hx
  | y :: L, p, S, h, x, hx => by
    obtain ⟨⟨g1, g2, g3, g4, g5, g6, g7⟩, h⟩ := h
    rcases List.mem_cons.mp hx with e | hx
    · subst e
      show 0 ≤ sfold (upI S x.1 x.2) L x.1 ∧ _
      rw [show sfold S (x :: L) x.1 = sfold (upI S x.1 x.2) L x.1 from rfl, sfold_no h (Or.inl (Int.le_refl _)), upI_eq]
      exact ⟨g5, g6⟩
    · exact okC_val h x hx
theorem encM_len {nw : Int} {A1 : Int → Int} {L : List (Int × Int)} {S : Int → Int} {t s lt ls : Int} (h : okC nw A1 (-1) S L) (hn : nw ≤ 200) (ht : 0 ≤ t ∧ t < 1152921504606846976) (hs : 0 ≤ s ∧ s < 1152921504606846976) (hlt : 0 ≤ lt) (hls : -1 ≤ ls) (hL : L.length ≤ 60000) : (encM t s lt ls (sfold S L) (L.map Prod.fst)).length ≤ 27 + 18 * L.length := by
  have i := encL_len (S := sfold S L) (w := 0) h hn (Or.inr ⟨rfl, rfl⟩) (okC_val h)
  unfold encM hdrL
  rw [List.length_append, List.length_append]
  have a := c7_9 (v := ((L.map Prod.fst).length : Int)) (by rw [List.length_map]; omega)
  by_cases g : t = lt
  · rw [if_pos g]
    have b := c7_9 (v := 2 * (s - ls) + 1) (by omega)
    omega
  · rw [if_neg g, List.length_append]
    have b := c7_9 (v := 2 * (t - lt)) (by omega)
    have d := c7_9 (v := s) (by omega)
    omega
theorem encAll_le {nw : Int} {A1 : Int → Int} (hn : nw ≤ 200) : ∀ {ms : List (Int × Int × List (Int × Int))} {lt ls : Int} {S : Int → Int}, okL nw A1 lt ls S ms → 0 ≤ lt → -1 ≤ ls → numC ms ≤ 60000 → ((encAll lt ls S ms).length : Int) ≤ 27 * ms.length + 18 * numC ms
  | [], _, _, _, _, _, _, _ => by simp [encAll, numC]
  | q :: ms, lt, ls, S, h, hlt, hls, hc => by
    obtain ⟨⟨g1, g2, g3, g4, g5, g6, g7⟩, h⟩ := h
    have hn0 := numC_0 ms
    have hc2 : numC (q :: ms) = q.2.2.length + numC ms := rfl
    have i := encAll_le hn h g1 (by omega) (by omega)
    have a := encM_len (S := S) (lt := lt) (ls := ls) g7 hn ⟨g1, g2⟩ ⟨g3, g4⟩ hlt hls (by omega)
    show ((encM q.1 q.2.1 lt ls (sfold S q.2.2) (q.2.2.map Prod.fst) ++ encAll q.1 q.2.1 (sfold S q.2.2) ms).length : Int) ≤ _
    rw [List.length_append, hc2, List.length_cons]
    omega
theorem encAll_len {nw : Int} {A1 : Int → Int} {ms : List (Int × Int × List (Int × Int))} (h : okL nw A1 0 (-1) (fun _ => 0) ms) (hn : nw ≤ 200 ∧ 0 + 2 * (ms.length : Int) + 2 * numC ms ≤ 2048) : (encAll 0 (-1) (fun _ => 0) ms).length ≤ 60000 := by
  have i := encAll_le hn.1 h (by omega) (by omega) (by have := hn.2; omega)
  have := hn.2
  have := numC_0 ms
  omega
set_option maxRecDepth 100000 in
set_option maxHeartbeats 1000000 in
theorem c_X7_again {G : GG} {l : Launch} {r : Nat} {ad : Nat → Nat} {w : Wd} {c0 nw op sm ti sp nm nc sz ts av fi wr rm rc : Int} {A1 A3 A4 A9 A10 A11 A13 A14 A15 A16 A18 A20 A25 A26 A27 A28 A30 A31 : Int → Int} {RM : List (Int × Int × List (Int × Int))} (hR : RefAt G r ad w c0 nw op sm ti sp nm nc sz ts av fi wr rm rc A1 A3 A4 A9 A10 A11 A13 A14 A15 A16 A18 A20 A25 A26 A27 A28 A30 A31) (h0 : 0 ≤ nw ∧ nw ≤ 200) (hz3 : ∀ q, ¬ (0 ≤ q ∧ q < 64 * nw) → A3 q = 0) (hz4 : ∀ q, ¬ (0 ≤ q ∧ q < 64 * nw) → A4 q = 0) (hok0 : okL nw A1 0 (-1) (fun _ => 0) RM) (hrm : (RM.length : Int) = rm ∧ rm ≤ 15000) (hN9 : numC RM ≤ 30001) (hE9 : (encAll 0 (-1) (fun _ => 0) RM).length ≤ 60000) (q1 : holds A26 0 (RM.map fun q => q.1)) (q2 : holds A27 0 (RM.map fun q => q.2.1)) (q3 : holds A28 0 (RM.map fun q => (q.2.2.length : Int))) (q4 : holds A30 0 (plas RM)) (q5 : holds A31 0 (vals RM)) : MG G l yX7_again wsX7_again 4 160 0 0 [.ref r] w (pV (fun (w' : Wd) => RefAt G r ad w' c0 nw 0 (if 0 < rm then 1 else 0) (lasT ti RM) (lasS sp RM) RM.length (numC RM) (encAll 0 (-1) (fun _ => 0) RM).length ts av fi wr rm rc A1 (sall (fun _ => 0) RM) (sall (fun _ => 0) RM) (putL A9 0 (RM.map fun q => q.1)) (putL A10 0 (RM.map fun q => q.2.1)) (putL A11 0 (begs 0 0 (-1) (fun _ => 0) RM)) (putL A13 0 (idxs 0 RM)) (putL A14 0 (plas RM)) (putL A15 0 (befs (fun _ => 0) RM)) (putL A16 0 (vals RM)) (putL A18 0 (encAll 0 (-1) (fun _ => 0) RM)) A20 A25 A26 A27 A28 A30 A31 ∧ Fr mT w w')) := by
  refine MG.of (cc := cX7_again) (nL := 4) (ret := none) (ll := [some (.ref r), none, none, none]) (by decide) rfl (Nat.le_of_ble_eq_true rfl) rfl ?_
  intro p e s m args below meth c C
  have hts := C.2.2.2.2.1
  have p88 : PutF G s m args 88 10 12 (.int) := putF_of C 10 12 tyX7 tyX7_ok nmX7 (T := TX7) (N := 33) (Cn := RX7) (ref := "TraceBookModel") rfl (by decide) (fun _ h => List.mem_cons_of_mem _ (List.mem_append_right _ (h))) (List.mem_of_getElem? (i := 1) rfl) (fun _ h => h) rfl (by decide +kernel)
  have p133 : PutF G s m args 133 10 17 (.int) := putF_of C 10 17 tyX7 tyX7_ok nmX7 (T := TX7) (N := 33) (Cn := RX7) (ref := "TraceBookModel") rfl (by decide) (fun _ h => List.mem_cons_of_mem _ (List.mem_append_right _ (h))) (List.mem_of_getElem? (i := 2) rfl) (fun _ h => h) rfl (by decide +kernel)
  have p85 : PutF G s m args 85 10 19 (.int) := putF_of C 10 19 tyX7 tyX7_ok nmX7 (T := TX7) (N := 33) (Cn := RX7) (ref := "TraceBookModel") rfl (by decide) (fun _ h => List.mem_cons_of_mem _ (List.mem_append_right _ (h))) (List.mem_of_getElem? (i := 3) rfl) (fun _ h => h) rfl (by decide +kernel)
  have g70 : GetF G s m args 70 10 2 := getF_of C 10 2 (T := TX7) (N := 33) (Cn := RX7) (ref := "TraceBookModel") rfl (by decide) (fun _ h => List.mem_cons_of_mem _ (List.mem_append_right _ (h))) (List.mem_of_getElem? (i := 4) rfl) (fun _ h => h)
  have g165 : GetF G s m args 165 10 29 := getF_of C 10 29 (T := TX7) (N := 33) (Cn := RX7) (ref := "TraceBookModel") rfl (by decide) (fun _ h => List.mem_cons_of_mem _ (List.mem_append_right _ (h))) (List.mem_of_getElem? (i := 7) rfl) (fun _ h => h)
  have p138 : PutF G s m args 138 10 5 (.boolean) := putF_of C 10 5 tyX7 tyX7_ok nmX7 (T := TX7) (N := 33) (Cn := RX7) (ref := "TraceBookModel") rfl (by decide) (fun _ h => List.mem_cons_of_mem _ (List.mem_append_right _ (h))) (List.mem_of_getElem? (i := 15) rfl) (fun _ h => h) rfl (by decide +kernel)
  have p73 : PutF G s m args 73 10 6 (.boolean) := putF_of C 10 6 tyX7 tyX7_ok nmX7 (T := TX7) (N := 33) (Cn := RX7) (ref := "TraceBookModel") rfl (by decide) (fun _ h => List.mem_cons_of_mem _ (List.mem_append_right _ (h))) (List.mem_of_getElem? (i := 16) rfl) (fun _ h => h) rfl (by decide +kernel)
  have g51 : GetF G s m args 51 10 26 := getF_of C 10 26 (T := TX7) (N := 33) (Cn := RX7) (ref := "TraceBookModel") rfl (by decide) (fun _ h => List.mem_cons_of_mem _ (List.mem_append_right _ (h))) (List.mem_of_getElem? (i := 8) rfl) (fun _ h => h)
  have p93 : PutF G s m args 93 10 7 (.long) := putF_of C 10 7 tyX7 tyX7_ok nmX7 (T := TX7) (N := 33) (Cn := RX7) (ref := "TraceBookModel") rfl (by decide) (fun _ h => List.mem_cons_of_mem _ (List.mem_append_right _ (h))) (List.mem_of_getElem? (i := 9) rfl) (fun _ h => h) rfl (by decide +kernel)
  have g54 : GetF G s m args 54 10 27 := getF_of C 10 27 (T := TX7) (N := 33) (Cn := RX7) (ref := "TraceBookModel") rfl (by decide) (fun _ h => List.mem_cons_of_mem _ (List.mem_append_right _ (h))) (List.mem_of_getElem? (i := 10) rfl) (fun _ h => h)
  have p103 : PutF G s m args 103 10 8 (.long) := putF_of C 10 8 tyX7 tyX7_ok nmX7 (T := TX7) (N := 33) (Cn := RX7) (ref := "TraceBookModel") rfl (by decide) (fun _ h => List.mem_cons_of_mem _ (List.mem_append_right _ (h))) (List.mem_of_getElem? (i := 11) rfl) (fun _ h => h) rfl (by decide +kernel)
  have g57 : GetF G s m args 57 10 28 := getF_of C 10 28 (T := TX7) (N := 33) (Cn := RX7) (ref := "TraceBookModel") rfl (by decide) (fun _ h => List.mem_cons_of_mem _ (List.mem_append_right _ (h))) (List.mem_of_getElem? (i := 12) rfl) (fun _ h => h)
  have g16 : GetF G s m args 16 10 4 := getF_of C 10 4 (T := TX7) (N := 33) (Cn := RX7) (ref := "TraceBookModel") rfl (by decide) (fun _ h => List.mem_cons_of_mem _ (List.mem_append_right _ (h))) (List.mem_of_getElem? (i := 6) rfl) (fun _ h => h)
  have g60 : GetF G s m args 60 10 30 := getF_of C 10 30 (T := TX7) (N := 33) (Cn := RX7) (ref := "TraceBookModel") rfl (by decide) (fun _ h => List.mem_cons_of_mem _ (List.mem_append_right _ (h))) (List.mem_of_getElem? (i := 13) rfl) (fun _ h => h)
  have g63 : GetF G s m args 63 10 31 := getF_of C 10 31 (T := TX7) (N := 33) (Cn := RX7) (ref := "TraceBookModel") rfl (by decide) (fun _ h => List.mem_cons_of_mem _ (List.mem_append_right _ (h))) (List.mem_of_getElem? (i := 14) rfl) (fun _ h => h)
  have g13 : GetF G s m args 13 10 3 := getF_of C 10 3 (T := TX7) (N := 33) (Cn := RX7) (ref := "TraceBookModel") rfl (by decide) (fun _ h => List.mem_cons_of_mem _ (List.mem_append_right _ (h))) (List.mem_of_getElem? (i := 5) rfl) (fun _ h => h)
  refine poV (P := fun PO => V G p l e _ s m args below meth c (MQW G below args s _ _ (pV PO)) w 0 0 0 _ []) (fun PO hPO => ?_)
  obtain ⟨w0, hw0⟩ : ∃ z, z = w := ⟨_, rfl⟩
  rw [← hw0] at hPO
  have hF : Fr mT w0 w := by rw [hw0]; exact Fr.rf
  obtain ⟨Y3, hY3⟩ : ∃ f, f = sall (fun _ => 0) RM := ⟨_, rfl⟩
  rw [← hY3] at hPO
  obtain ⟨Y9, hY9⟩ : ∃ f, f = (putL A9 0 (RM.map fun q => q.1)) := ⟨_, rfl⟩
  rw [← hY9] at hPO
  obtain ⟨Y10, hY10⟩ : ∃ f, f = (putL A10 0 (RM.map fun q => q.2.1)) := ⟨_, rfl⟩
  rw [← hY10] at hPO
  obtain ⟨Y11, hY11⟩ : ∃ f, f = (putL A11 0 (begs 0 0 (-1) (fun _ => 0) RM)) := ⟨_, rfl⟩
  rw [← hY11] at hPO
  obtain ⟨Y13, hY13⟩ : ∃ f, f = (putL A13 0 (idxs 0 RM)) := ⟨_, rfl⟩
  rw [← hY13] at hPO
  obtain ⟨Y14, hY14⟩ : ∃ f, f = (putL A14 0 (plas RM)) := ⟨_, rfl⟩
  rw [← hY14] at hPO
  obtain ⟨Y15, hY15⟩ : ∃ f, f = (putL A15 0 (befs (fun _ => 0) RM)) := ⟨_, rfl⟩
  rw [← hY15] at hPO
  obtain ⟨Y16, hY16⟩ : ∃ f, f = (putL A16 0 (vals RM)) := ⟨_, rfl⟩
  rw [← hY16] at hPO
  obtain ⟨Y18, hY18⟩ : ∃ f, f = (putL A18 0 (encAll 0 (-1) (fun _ => 0) RM)) := ⟨_, rfl⟩
  rw [← hY18] at hPO
  have hnRM := numC_0 RM
  refine v_aload_n C dX7_again_0 rfl ?_
  refine v_iconst C dX7_again_1 ?_
  refine m_put_12 C p88 hR dX7_again_2 (fun w hR hF9 => ?_)
  have hF := hF.tr hF9
  refine v_aload_n C dX7_again_5 rfl ?_
  refine v_iconst C dX7_again_6 ?_
  refine m_put_17 C p133 hR dX7_again_7 (fun w hR hF9 => ?_)
  have hF := hF.tr hF9
  refine v_aload_n C dX7_again_10 rfl ?_
  refine v_iconst C dX7_again_11 ?_
  refine m_put_19 C p85 hR dX7_again_12 (fun w hR hF9 => ?_)
  have hF := hF.tr hF9
  refine v_iconst C dX7_again_15 ?_
  refine v_istore_n C dX7_again_16 sl_4_1 (by decide) rfl ?_
  have L17 : ∀ (N : Nat) (w : Wd) (i : Int), (RefAt G r ad w c0 nw op sm ti sp 0 0 0 ts av fi wr rm rc A1 (zrU A3 i) (zrU A4 i) A9 A10 A11 A13 A14 A15 A16 A18 A20 A25 A26 A27 A28 A30 A31) → (Fr mT w0 w) → (0 ≤ i ∧ i ≤ 64 * nw) → (64 * nw - i).toNat < N → V G p l e { frames := 4, cells := 0, slots := 0, locals := 160 } s m args below meth c (MQW G below args s 0 0 (pV PO)) w 0 0 17 [some (.ref r), some (.int (iI i)), none, none] [] := by
    intro N
    induction N with
    | zero => intro w i hR hF hi hm; exact absurd hm (Nat.not_lt_zero _)
    | succ N ih =>
      intro w i hR hF hi hm
      refine v_iload_n C dX7_again_17 rfl ?_
      refine v_bipush C dX7_again_18 rfl ?_
      refine v_aload_n C dX7_again_20 rfl ?_
      refine v_getf C g70 hR.1 rfl dX7_again_21 ?_
      refine v_imul C dX7_again_24 ?_
      refine v_icmp_ge C (⟨by omega, by omega⟩) (⟨by omega, by omega⟩) (tgt := 48) dX7_again_25 (by decide) (fun c_25 => ?_) (fun c_25 => ?_)
      · refine v_iconst C dX7_again_48 ?_
        refine v_istore_n C dX7_again_49 sl_4_1 (by decide) rfl ?_
        refine v_iconst C dX7_again_50 ?_
        refine v_istore_n C dX7_again_51 sl_4_2 (by decide) rfl ?_
        have L52 : ∀ (N : Nat) (w : Wd) (k j nc2 sz2 ti2 sp2 lt ls : Int) (S C9 C10 C11 C13 C14 C15 C16 C18 : Int → Int) (ms : List (Int × Int × List (Int × Int))), (RefAt G r ad w c0 nw op sm ti2 sp2 j nc2 sz2 ts av fi wr rm rc A1 S S C9 C10 C11 C13 C14 C15 C16 C18 A20 A25 A26 A27 A28 A30 A31) → (Fr mT w0 w) → (okL nw A1 lt ls S ms) → (∀ i, 0 ≤ i → i < 12800 → 0 ≤ S i ∧ S i ≤ 8) → (lt = (if j = 0 then 0 else C9 (j - 1)) ∧ ls = (if j = 0 then -1 else C10 (j - 1))) → (0 ≤ lt ∧ lt < 1152921504606846976 ∧ -1 ≤ ls ∧ ls < 1152921504606846976) → (0 ≤ j ∧ j + ms.length = rm) → (0 ≤ nc2 ∧ nc2 + numC ms = numC RM) → (0 ≤ sz2 ∧ sz2 + (encAll lt ls S ms).length = (encAll 0 (-1) (fun _ => 0) RM).length) → (holds A26 j (ms.map fun q => q.1)) → (holds A27 j (ms.map fun q => q.2.1)) → (holds A28 j (ms.map fun q => (q.2.2.length : Int))) → (holds A30 k (plas ms)) → (holds A31 k (vals ms) ∧ 0 ≤ k ∧ k + numC ms ≤ 30001) → (sall S ms = Y3) → (putL C9 j (ms.map fun q => q.1) = Y9) → (putL C10 j (ms.map fun q => q.2.1) = Y10) → (putL C11 j (begs sz2 lt ls S ms) = Y11) → (putL C13 nc2 (idxs j ms) = Y13) → (putL C14 nc2 (plas ms) = Y14) → (putL C15 nc2 (befs S ms) = Y15) → (putL C16 nc2 (vals ms) = Y16) → (putL C18 sz2 (encAll lt ls S ms) = Y18) → (lasT ti2 ms = lasT ti RM ∧ lasS sp2 ms = lasS sp RM) → ((ms.length : Int)).toNat < N → V G p l e { frames := 4, cells := 0, slots := 0, locals := 160 } s m args below meth c (MQW G below args s 0 0 (pV PO)) w 0 0 52 [some (.ref r), some (.int (iI k)), some (.int (iI j)), none] [] := by
          intro N
          induction N with
          | zero => intro w k j nc2 sz2 ti2 sp2 lt ls S C9 C10 C11 C13 C14 C15 C16 C18 ms hR hF hok hS hl hlb hj hk hsz g1 g2 g3 g4 g5 e1 e2 e3 e4 e5 e6 e7 e8 e9 e10 hm; exact absurd hm (Nat.not_lt_zero _)
          | succ N ih =>
            intro w k j nc2 sz2 ti2 sp2 lt ls S C9 C10 C11 C13 C14 C15 C16 C18 ms hR hF hok hS hl hlb hj hk hsz g1 g2 g3 g4 g5 e1 e2 e3 e4 e5 e6 e7 e8 e9 e10 hm
            refine v_iload_n C dX7_again_52 rfl ?_
            refine v_aload_n C dX7_again_53 rfl ?_
            refine v_getf C g165 hR.1 rfl dX7_again_54 ?_
            refine v_icmp_ge C (⟨by omega, by omega⟩) (⟨by omega, by omega⟩) (tgt := 129) dX7_again_57 (by decide) (fun c_57 => ?_) (fun c_57 => ?_)
            · have hms : ms = [] := by
                cases ms with
                | nil => rfl
                | cons a b => simp at hj; omega
              subst hms
              refine v_aload_n C dX7_again_129 rfl ?_
              refine v_iconst C dX7_again_130 ?_
              refine m_put_5 C p138 hR (Or.inl rfl) dX7_again_131 (fun w hR hF9 => ?_)
              have hF := hF.tr hF9
              refine v_aload_n C dX7_again_134 rfl ?_
              refine v_aload_n C dX7_again_135 rfl ?_
              refine v_getf C g165 hR.1 rfl dX7_again_136 ?_
              refine v_if_le C (⟨by omega, by omega⟩) (tgt := 146) dX7_again_139 (by decide) (fun c_139 => ?_) (fun c_139 => ?_)
              · refine v_iconst C dX7_again_146 ?_
                refine m_put_6 C p73 hR (by omega) dX7_again_147 (fun w hR hF9 => ?_)
                have hF := hF.tr hF9
                exact v_vret C rfl dX7_again_150 (Nat.le_refl _) (Nat.le_refl _) (by
                      rw [show j = (RM.length : Int) by simp at hj; omega, show nc2 = numC RM by simp [numC] at hk; omega, show sz2 = ((encAll 0 (-1) (fun _ => 0) RM).length : Int) by simp [encAll] at hsz; omega, show S = Y3 from e1, show C9 = Y9 from e2, show C10 = Y10 from e3, show C11 = Y11 from e4, show C13 = Y13 from e5, show C14 = Y14 from e6, show C15 = Y15 from e7, show C16 = Y16 from e8, show C18 = Y18 from e9, show ti2 = lasT ti RM from e10.1, show sp2 = lasS sp RM from e10.2] at hR
                      refine hPO _ ⟨?_, hF⟩
                      rw [if_neg (by omega)]; exact hR)
              · refine v_iconst C dX7_again_142 ?_
                refine v_goto C (tgt := 147) dX7_again_143 (by decide) ?_
                refine m_put_6 C p73 hR (by omega) dX7_again_147 (fun w hR hF9 => ?_)
                have hF := hF.tr hF9
                exact v_vret C rfl dX7_again_150 (Nat.le_refl _) (Nat.le_refl _) (by
                      rw [show j = (RM.length : Int) by simp at hj; omega, show nc2 = numC RM by simp [numC] at hk; omega, show sz2 = ((encAll 0 (-1) (fun _ => 0) RM).length : Int) by simp [encAll] at hsz; omega, show S = Y3 from e1, show C9 = Y9 from e2, show C10 = Y10 from e3, show C11 = Y11 from e4, show C13 = Y13 from e5, show C14 = Y14 from e6, show C15 = Y15 from e7, show C16 = Y16 from e8, show C18 = Y18 from e9, show ti2 = lasT ti RM from e10.1, show sp2 = lasS sp RM from e10.2] at hR
                      refine hPO _ ⟨?_, hF⟩
                      rw [if_pos (by omega)]; exact hR)
            · obtain ⟨q8, ms2, hms⟩ : ∃ q8 ms2, ms = q8 :: ms2 := by
                cases ms with
                | nil => simp at hj; omega
                | cons a b => exact ⟨a, b, rfl⟩
              subst hms
              obtain ⟨t8, s8, L8⟩ := q8
              obtain ⟨⟨b1, b2, b3, b4, b5, b6, b7⟩, hok⟩ := hok
              simp only at b1 b2 b3 b4 b5 b6 b7
              have g1h : A26 j = t8 := g1.1
              have g2h : A27 j = s8 := g2.1
              have g3h : A28 j = (L8.length : Int) := g3.1
              have g4 : holds A30 k (L8.map Prod.fst ++ plas ms2) := g4
              have g5 : holds A31 k (L8.map Prod.snd ++ vals ms2) ∧ 0 ≤ k ∧ k + numC ((t8, s8, L8) :: ms2) ≤ 30001 := g5
              have hnC : numC ((t8, s8, L8) :: ms2) = L8.length + numC ms2 := rfl
              rw [hnC] at hk g5
              have hn0 := numC_0 ms2
              have hlen : (((t8, s8, L8) :: ms2).length : Int) = ms2.length + 1 := by simp
              rw [hlen] at hj hm
              have hP8 := drF_L h0.1 b7
              have hpl : ∀ x ∈ L8, 0 ≤ x.1 ∧ x.1 < 64 * nw := okC_in b7
              have hEn : (encAll lt ls S ((t8, s8, L8) :: ms2)).length = (encM t8 s8 lt ls (sfold S L8) (L8.map Prod.fst)).length + (encAll t8 s8 (sfold S L8) ms2).length := List.length_append
              rw [hEn] at hsz
              refine v_aload_n C dX7_again_60 rfl ?_
              refine v_aload_n C dX7_again_61 rfl ?_
              refine v_getf C g51 hR.1 rfl dX7_again_62 ?_
              refine v_iload_n C dX7_again_65 rfl ?_
              refine v_lald C hR.a26 (⟨by omega, by omega⟩) (by omega) (by omega) dX7_again_66 ?_
              refine m_put_7 C p93 hR dX7_again_67 (fun w hR hF9 => ?_)
              have hF := hF.tr hF9
              rw [g1h] at hR
              refine v_aload_n C dX7_again_70 rfl ?_
              refine v_aload_n C dX7_again_71 rfl ?_
              refine v_getf C g54 hR.1 rfl dX7_again_72 ?_
              refine v_iload_n C dX7_again_75 rfl ?_
              refine v_lald C hR.a27 (⟨by omega, by omega⟩) (by omega) (by omega) dX7_again_76 ?_
              refine m_put_8 C p103 hR dX7_again_77 (fun w hR hF9 => ?_)
              have hF := hF.tr hF9
              rw [g2h] at hR
              refine v_iconst C dX7_again_80 ?_
              refine v_istore_n C dX7_again_81 sl_4_3 (by decide) rfl ?_
              have L82 : ∀ (N9 : Nat) (w : Wd) (k2 c9 : Int) (S4 : Int → Int) (L : List (Int × Int)), (RefAt G r ad w c0 nw op sm t8 s8 j nc2 sz2 ts av fi wr rm rc A1 S S4 C9 C10 C11 C13 C14 C15 C16 C18 A20 A25 A26 A27 A28 A30 A31) → (Fr mT w0 w) → (sfold S4 L = sfold S L8) → (0 ≤ c9 ∧ c9 + L.length = L8.length) → (holds A30 k2 (L.map Prod.fst ++ plas ms2) ∧ holds A31 k2 (L.map Prod.snd ++ vals ms2)) → (0 ≤ k2 ∧ k2 + L.length = k + L8.length) → (∀ x ∈ L, 0 ≤ x.1 ∧ x.1 < 64 * nw) → ((L.length : Int)).toNat < N9 → V G p l e { frames := 4, cells := 0, slots := 0, locals := 160 } s m args below meth c (MQW G below args s 0 0 (pV PO)) w 0 0 82 [some (.ref r), some (.int (iI k2)), some (.int (iI j)), some (.int (iI c9))] [] := by
                intro N9
                induction N9 with
                | zero => intro w k2 c9 S4 L hR hF f1 f2 f3 f4 f5 hm9; exact absurd hm9 (Nat.not_lt_zero _)
                | succ N9 ih9 =>
                  intro w k2 c9 S4 L hR hF f1 f2 f3 f4 f5 hm9
                  refine v_iload_n C dX7_again_82 rfl ?_
                  refine v_aload_n C dX7_again_83 rfl ?_
                  refine v_getf C g57 hR.1 rfl dX7_again_84 ?_
                  refine v_iload_n C dX7_again_87 rfl ?_
                  refine v_iald C hR.a28 (⟨by omega, by omega⟩) (by omega) (by omega) dX7_again_88 ?_
                  rw [g3h]
                  refine v_icmp_ge C (⟨by omega, by omega⟩) (⟨by omega, by omega⟩) (tgt := 118) dX7_again_89 (by decide) (fun c_89 => ?_) (fun c_89 => ?_)
                  · have hL0 : L = [] := by
                      cases L with
                      | nil => rfl
                      | cons a b => simp at f2; omega
                    subst hL0
                    have hS9 : S4 = sfold S L8 := f1
                    rw [hS9] at hR
                    have hk9 : k2 = k + L8.length := by simp at f4; omega
                    have hS4 := sfold_bd (S := S) b7 hS
                    refine v_aload_n C dX7_again_118 rfl ?_
                    refine v_callVi C (q := (RX7, TX7, 33)) (As := []) (rest := []) (c_X7_finish hR h0 hS4 hS ⟨by omega, by omega⟩ ⟨by omega, by omega⟩ ⟨by omega, by omega⟩ (by rw [← hl.1]; exact ⟨by omega, by omega⟩) (by rw [← hl.1, ← hl.2]; exact ⟨by omega, by omega, fun g => by omega⟩) (by rw [hP8, List.length_map]; exact ⟨by omega, by omega⟩) (by rw [hP8, ← hl.1, ← hl.2]; exact ⟨by omega, by omega⟩)) (cwV 0 hts gX7_again_X7_finish rfl rfl rfl (by decide +kernel) ⟨Nat.le_of_ble_eq_true rfl, Nat.le_of_ble_eq_true rfl⟩) hR.1 rfl rfl rfl (Nat.le_of_ble_eq_true rfl) dX7_again_119 (Nat.le_of_ble_eq_true rfl) (Nat.le_of_ble_eq_true rfl) (fun x_119 w hp => ?_)
                    obtain ⟨hF9, hp⟩ := hp
                    have hF := hF.tr hF9
                    obtain ⟨-, hx119, hR⟩ := hp.resolve_left (fun g => b6 (by have g9 := g.1; rw [hP8] at g9; exact List.map_eq_nil_iff.mp g9))
                    rw [hP8, stl_sfold b7, ← hl.1, ← hl.2, sfold_map b7] at hR
                    refine v_wide (k' := 0) (z' := 0) (Nat.le_refl _) (Nat.le_refl _) ?_
                    refine v_istore_n C dX7_again_122 sl_4_3 (by decide) rfl ?_
                    refine v_iinc C dX7_again_123 rfl sl_4_2 (by decide) rfl ?_
                    refine v_goto C (tgt := 52) dX7_again_126 (by decide) ?_
                    refine v_kill 3 sk_4_3 ?_
                    have hlm : ((L8.map Prod.fst).length : Int) = L8.length := by simp
                    rw [hlm] at hR
                    have e5b : putL (putL C13 nc2 ((L8.map Prod.fst).map (fun _ => j))) (nc2 + L8.length) (idxs (j + 1) ms2) = Y13 := by rw [← e5, show idxs j ((t8, s8, L8) :: ms2) = (L8.map Prod.fst).map (fun _ => j) ++ idxs (j + 1) ms2 from rfl, putL_app]; simp
                    have e6b : putL (putL C14 nc2 (L8.map Prod.fst)) (nc2 + L8.length) (plas ms2) = Y14 := by rw [← e6, show plas ((t8, s8, L8) :: ms2) = L8.map Prod.fst ++ plas ms2 from rfl, putL_app]; simp
                    have e7b : putL (putL C15 nc2 ((L8.map Prod.fst).map S)) (nc2 + L8.length) (befs (sfold S L8) ms2) = Y15 := by rw [← e7, show befs S ((t8, s8, L8) :: ms2) = (L8.map Prod.fst).map S ++ befs (sfold S L8) ms2 from rfl, putL_app]; simp
                    have e8b : putL (putL C16 nc2 (L8.map Prod.snd)) (nc2 + L8.length) (vals ms2) = Y16 := by rw [← e8, show vals ((t8, s8, L8) :: ms2) = L8.map Prod.snd ++ vals ms2 from rfl, putL_app]; simp
                    have e9b : putL (putL C18 sz2 (encM t8 s8 lt ls (sfold S L8) (L8.map Prod.fst))) (sz2 + (encM t8 s8 lt ls (sfold S L8) (L8.map Prod.fst)).length) (encAll t8 s8 (sfold S L8) ms2) = Y18 := by rw [← e9, show encAll lt ls S ((t8, s8, L8) :: ms2) = encM t8 s8 lt ls (sfold S L8) (L8.map Prod.fst) ++ encAll t8 s8 (sfold S L8) ms2 from rfl, putL_app]
                    have g4b := (holds_app.mp g4).2
                    have g5b := (holds_app.mp g5.1).2
                    rw [List.length_map, ← hk9] at g4b g5b
                    exact ih _ _ (j + 1) _ _ _ _ t8 s8 _ _ _ _ _ _ _ _ _ ms2 hR hF hok hS4 ⟨by rw [if_neg (by omega), show j + 1 - 1 = j by omega, upI_eq], by rw [if_neg (by omega), show j + 1 - 1 = j by omega, upI_eq]⟩ ⟨b1, b2, by omega, b4⟩ ⟨by omega, by omega⟩ ⟨by omega, by omega⟩ ⟨by omega, by omega⟩ g1.2 g2.2 g3.2 g4b ⟨g5b, by omega, by omega⟩ e1 e2 e3 e4 e5b e6b e7b e8b e9b e10 (by omega)
                  · obtain ⟨x8, L2, hL2⟩ : ∃ x8 L2, L = x8 :: L2 := by
                      cases L with
                      | nil => simp at f2; omega
                      | cons a b => exact ⟨a, b, rfl⟩
                    subst hL2
                    have hx1 : A30 k2 = x8.1 := f3.1.1
                    have hx2 : A31 k2 = x8.2 := f3.2.1
                    have hx3 := f5 x8 List.mem_cons_self
                    have hL9 : ((x8 :: L2).length : Int) = L2.length + 1 := by simp
                    rw [hL9] at f2 f4 hm9
                    refine v_aload_n C dX7_again_92 rfl ?_
                    refine v_getf C g16 hR.1 rfl dX7_again_93 ?_
                    refine v_aload_n C dX7_again_96 rfl ?_
                    refine v_getf C g60 hR.1 rfl dX7_again_97 ?_
                    refine v_iload_n C dX7_again_100 rfl ?_
                    refine v_iald C hR.a30 (⟨by omega, by omega⟩) (by omega) (by omega) dX7_again_101 ?_
                    refine v_aload_n C dX7_again_102 rfl ?_
                    refine v_getf C g63 hR.1 rfl dX7_again_103 ?_
                    refine v_iload_n C dX7_again_106 rfl ?_
                    refine v_iald C hR.a31 (⟨by omega, by omega⟩) (by omega) (by omega) dX7_again_107 ?_
                    refine m_st_4 C hR (⟨by omega, by omega⟩) (by omega) (by omega) dX7_again_108 (fun w hR hF9 => ?_)
                    have hF := hF.tr hF9
                    rw [hx1, hx2] at hR
                    refine v_iinc C dX7_again_109 rfl sl_4_1 (by decide) rfl ?_
                    refine v_iinc C dX7_again_112 rfl sl_4_3 (by decide) rfl ?_
                    refine v_goto C (tgt := 82) dX7_again_115 (by decide) ?_
                    exact ih9 _ (k2 + 1) (c9 + 1) _ L2 hR hF f1 ⟨by omega, by omega⟩ ⟨f3.1.2, f3.2.2⟩ ⟨by omega, by omega⟩ (fun x hx => f5 x (List.mem_cons_of_mem _ hx)) (by omega)
              exact L82 _ _ k 0 _ L8 hR hF rfl ⟨by omega, by omega⟩ ⟨g4, g5.1⟩ ⟨by omega, by omega⟩ hpl (Nat.lt_succ_self _)
        have hi9 : i = 64 * nw := by omega
        subst hi9
        rw [zrU_all hz3, zrU_all hz4] at hR
        exact L52 _ _ 0 0 0 0 ti sp 0 (-1) _ _ _ _ _ _ _ _ _ RM hR hF hok0 (fun _ _ _ => ⟨by omega, by omega⟩) ⟨rfl, rfl⟩ ⟨by omega, by omega, by omega, by omega⟩ ⟨by omega, by omega⟩ ⟨by omega, Int.zero_add _⟩ ⟨by omega, Int.zero_add _⟩ q1 q2 q3 q4 ⟨q5, by omega, by omega⟩ hY3.symm hY9.symm hY10.symm hY11.symm hY13.symm hY14.symm hY15.symm hY16.symm hY18.symm ⟨rfl, rfl⟩ (Nat.lt_succ_self _)
      · refine v_aload_n C dX7_again_28 rfl ?_
        refine v_getf C g13 hR.1 rfl dX7_again_29 ?_
        refine v_iload_n C dX7_again_32 rfl ?_
        refine v_iconst C dX7_again_33 ?_
        refine m_st_3 C hR (⟨by omega, by omega⟩) (by omega) (by omega) dX7_again_34 (fun w hR hF9 => ?_)
        have hF := hF.tr hF9
        refine v_aload_n C dX7_again_35 rfl ?_
        refine v_getf C g16 hR.1 rfl dX7_again_36 ?_
        refine v_iload_n C dX7_again_39 rfl ?_
        refine v_iconst C dX7_again_40 ?_
        refine m_st_4 C hR (⟨by omega, by omega⟩) (by omega) (by omega) dX7_again_41 (fun w hR hF9 => ?_)
        have hF := hF.tr hF9
        refine v_iinc C dX7_again_42 rfl sl_4_1 (by decide) rfl ?_
        refine v_goto C (tgt := 17) dX7_again_45 (by decide) ?_
        rw [zrU_up hi.1, zrU_up hi.1] at hR
        exact ih _ _ hR hF ⟨by omega, by omega⟩ (by omega)
  exact L17 _ _ 0 (by rw [zrU_0, zrU_0]; exact hR) hF ⟨by omega, by omega⟩ (Nat.lt_succ_self _)
set_option maxRecDepth 100000 in
set_option maxHeartbeats 1000000 in
theorem c_X7_load {G : GG} {l : Launch} {r : Nat} {ad : Nat → Nat} {w : Wd} {c0 nw op sm ti sp nm nc sz ts av fi wr rm rc : Int} {A1 A3 A4 A9 A10 A11 A13 A14 A15 A16 A18 A20 A25 A26 A27 A28 A30 A31 : Int → Int}  (hR : RefAt G r ad w c0 nw op sm ti sp nm nc sz ts av fi wr rm rc A1 A3 A4 A9 A10 A11 A13 A14 A15 A16 A18 A20 A25 A26 A27 A28 A30 A31) (h0 : 0 ≤ nw ∧ nw ≤ 200) (h1 : ∀ i, 0 ≤ i → i < nw → 1 ≤ A1 i ∧ A1 i ≤ 64) (hts : 0 ≤ ts ∧ ts ≤ 2048) (hT : ∀ q, 0 ≤ q → q < ts → 0 ≤ A20 q ∧ A20 q ≤ 255) (hz3 : ∀ q, ¬ (0 ≤ q ∧ q < 64 * nw) → A3 q = 0) (hz4 : ∀ q, ¬ (0 ≤ q ∧ q < 64 * nw) → A4 q = 0) (hz25 : ∀ q, ¬ (0 ≤ q ∧ q < 64 * nw) → A25 q = 0) : MG G l yX7_load wsX7_load 5 200 0 0 [.ref r] w (pI (fun (x : Int) (w' : Wd) => Fr mT w w' ∧ x = (pro A20 ts nw A1 0 0 (-1) (fun _ => 0)).1 ∧ ∃ (av2 fi2 wr2 rm2 rc2 : Int) (B25 B26 B27 B28 B30 B31 : Int → Int), (((pro A20 ts nw A1 0 0 (-1) (fun _ => 0)).1 ≠ -1 ∧ RefAt G r ad w' 0 nw op sm ti sp nm nc sz 0 av2 fi2 wr2 rm2 rc2 A1 A3 A4 A9 A10 A11 A13 A14 A15 A16 A18 A20 B25 B26 B27 B28 B30 B31) ∨ ((pro A20 ts nw A1 0 0 (-1) (fun _ => 0)).1 = -1 ∧ RefAt G r ad w' 0 nw 0 (if 0 < ((pro A20 ts nw A1 0 0 (-1) (fun _ => 0)).2.length : Int) then 1 else 0) (lasT ti (pro A20 ts nw A1 0 0 (-1) (fun _ => 0)).2) (lasS sp (pro A20 ts nw A1 0 0 (-1) (fun _ => 0)).2) ((pro A20 ts nw A1 0 0 (-1) (fun _ => 0)).2.length : Int) (numC (pro A20 ts nw A1 0 0 (-1) (fun _ => 0)).2) ((encAll 0 (-1) (fun _ => 0) (pro A20 ts nw A1 0 0 (-1) (fun _ => 0)).2).length : Int) 0 av2 fi2 wr2 rm2 rc2 A1 (sall (fun _ => 0) (pro A20 ts nw A1 0 0 (-1) (fun _ => 0)).2) (sall (fun _ => 0) (pro A20 ts nw A1 0 0 (-1) (fun _ => 0)).2) (putL A9 0 ((pro A20 ts nw A1 0 0 (-1) (fun _ => 0)).2.map fun q => q.1)) (putL A10 0 ((pro A20 ts nw A1 0 0 (-1) (fun _ => 0)).2.map fun q => q.2.1)) (putL A11 0 (begs 0 0 (-1) (fun _ => 0) (pro A20 ts nw A1 0 0 (-1) (fun _ => 0)).2)) (putL A13 0 (idxs 0 (pro A20 ts nw A1 0 0 (-1) (fun _ => 0)).2)) (putL A14 0 (plas (pro A20 ts nw A1 0 0 (-1) (fun _ => 0)).2)) (putL A15 0 (befs (fun _ => 0) (pro A20 ts nw A1 0 0 (-1) (fun _ => 0)).2)) (putL A16 0 (vals (pro A20 ts nw A1 0 0 (-1) (fun _ => 0)).2)) (putL A18 0 (encAll 0 (-1) (fun _ => 0) (pro A20 ts nw A1 0 0 (-1) (fun _ => 0)).2)) A20 B25 B26 B27 B28 B30 B31)) ∧ ∀ i, ¬ (0 ≤ i ∧ i < 64 * nw) → B25 i = 0)) := by
  refine MG.of (cc := cX7_load) (nL := 2) (ret := (some .int)) (ll := [some (.ref r), none]) (by decide) rfl (Nat.le_of_ble_eq_true rfl) rfl ?_
  intro p e s m args below meth c C
  have hts := C.2.2.2.2.1
  have p66 : PutF G s m args 66 10 0 (.int) := putF_of C 10 0 tyX7 tyX7_ok nmX7 (T := TX7) (N := 33) (Cn := RX7) (ref := "TraceBookModel") rfl (by decide) (fun _ h => List.mem_cons_of_mem _ (List.mem_append_right _ (h))) (List.mem_of_getElem? (i := 1) rfl) (fun _ h => h) rfl (by decide +kernel)
  have p157 : PutF G s m args 157 10 22 (.int) := putF_of C 10 22 tyX7 tyX7_ok nmX7 (T := TX7) (N := 33) (Cn := RX7) (ref := "TraceBookModel") rfl (by decide) (fun _ h => List.mem_cons_of_mem _ (List.mem_append_right _ (h))) (List.mem_of_getElem? (i := 2) rfl) (fun _ h => h) rfl (by decide +kernel)
  have p151 : PutF G s m args 151 10 24 (.int) := putF_of C 10 24 tyX7 tyX7_ok nmX7 (T := TX7) (N := 33) (Cn := RX7) (ref := "TraceBookModel") rfl (by decide) (fun _ h => List.mem_cons_of_mem _ (List.mem_append_right _ (h))) (List.mem_of_getElem? (i := 3) rfl) (fun _ h => h) rfl (by decide +kernel)
  have p165 : PutF G s m args 165 10 29 (.int) := putF_of C 10 29 tyX7 tyX7_ok nmX7 (T := TX7) (N := 33) (Cn := RX7) (ref := "TraceBookModel") rfl (by decide) (fun _ h => List.mem_cons_of_mem _ (List.mem_append_right _ (h))) (List.mem_of_getElem? (i := 4) rfl) (fun _ h => h) rfl (by decide +kernel)
  have p173 : PutF G s m args 173 10 32 (.int) := putF_of C 10 32 tyX7 tyX7_ok nmX7 (T := TX7) (N := 33) (Cn := RX7) (ref := "TraceBookModel") rfl (by decide) (fun _ h => List.mem_cons_of_mem _ (List.mem_append_right _ (h))) (List.mem_of_getElem? (i := 5) rfl) (fun _ h => h) rfl (by decide +kernel)
  have g70 : GetF G s m args 70 10 2 := getF_of C 10 2 (T := TX7) (N := 33) (Cn := RX7) (ref := "TraceBookModel") rfl (by decide) (fun _ h => List.mem_cons_of_mem _ (List.mem_append_right _ (h))) (List.mem_of_getElem? (i := 6) rfl) (fun _ h => h)
  have g151 : GetF G s m args 151 10 24 := getF_of C 10 24 (T := TX7) (N := 33) (Cn := RX7) (ref := "TraceBookModel") rfl (by decide) (fun _ h => List.mem_cons_of_mem _ (List.mem_append_right _ (h))) (List.mem_of_getElem? (i := 3) rfl) (fun _ h => h)
  have p148 : PutF G s m args 148 10 21 (.int) := putF_of C 10 21 tyX7 tyX7_ok nmX7 (T := TX7) (N := 33) (Cn := RX7) (ref := "TraceBookModel") rfl (by decide) (fun _ h => List.mem_cons_of_mem _ (List.mem_append_right _ (h))) (List.mem_of_getElem? (i := 8) rfl) (fun _ h => h) rfl (by decide +kernel)
  have g157 : GetF G s m args 157 10 22 := getF_of C 10 22 (T := TX7) (N := 33) (Cn := RX7) (ref := "TraceBookModel") rfl (by decide) (fun _ h => List.mem_cons_of_mem _ (List.mem_append_right _ (h))) (List.mem_of_getElem? (i := 2) rfl) (fun _ h => h)
  have g148 : GetF G s m args 148 10 21 := getF_of C 10 21 (T := TX7) (N := 33) (Cn := RX7) (ref := "TraceBookModel") rfl (by decide) (fun _ h => List.mem_cons_of_mem _ (List.mem_append_right _ (h))) (List.mem_of_getElem? (i := 8) rfl) (fun _ h => h)
  have g48 : GetF G s m args 48 10 25 := getF_of C 10 25 (T := TX7) (N := 33) (Cn := RX7) (ref := "TraceBookModel") rfl (by decide) (fun _ h => List.mem_cons_of_mem _ (List.mem_append_right _ (h))) (List.mem_of_getElem? (i := 7) rfl) (fun _ h => h)
  refine poI (P := fun PO => V G p l e _ s m args below meth c (MQW G below args s _ _ (pI PO)) w 0 0 0 _ []) (fun PO hPO => ?_)
  obtain ⟨w0, hw0⟩ : ∃ z, z = w := ⟨_, rfl⟩
  rw [← hw0] at hPO
  have hF : Fr mT w0 w := by rw [hw0]; exact Fr.rf
  refine v_aload_n C dX7_load_0 rfl ?_
  refine v_iconst C dX7_load_1 ?_
  refine m_put_0 C p66 hR dX7_load_2 (fun w hR hF9 => ?_)
  have hF := hF.tr hF9
  refine v_aload_n C dX7_load_5 rfl ?_
  refine v_iconst C dX7_load_6 ?_
  refine m_put_22 C p157 hR dX7_load_7 (fun w hR hF9 => ?_)
  have hF := hF.tr hF9
  refine v_aload_n C dX7_load_10 rfl ?_
  refine v_iconst C dX7_load_11 ?_
  refine m_put_24 C p151 hR dX7_load_12 (fun w hR hF9 => ?_)
  have hF := hF.tr hF9
  refine v_aload_n C dX7_load_15 rfl ?_
  refine v_iconst C dX7_load_16 ?_
  refine m_put_29 C p165 hR dX7_load_17 (fun w hR hF9 => ?_)
  have hF := hF.tr hF9
  refine v_aload_n C dX7_load_20 rfl ?_
  refine v_iconst C dX7_load_21 ?_
  refine m_put_32 C p173 hR dX7_load_22 (fun w hR hF9 => ?_)
  have hF := hF.tr hF9
  refine v_iconst C dX7_load_25 ?_
  refine v_istore_n C dX7_load_26 sl_2_1 (by decide) rfl ?_
  have L27 : ∀ (N : Nat) (w : Wd) (i : Int), (RefAt G r ad w 0 nw op sm ti sp nm nc sz ts 0 fi (-1) 0 0 A1 A3 A4 A9 A10 A11 A13 A14 A15 A16 A18 A20 (zrU A25 i) A26 A27 A28 A30 A31) → (Fr mT w0 w) → (0 ≤ i ∧ i ≤ 64 * nw) → (64 * nw - i).toNat < N → V G p l e { frames := 5, cells := 0, slots := 0, locals := 200 } s m args below meth c (MQW G below args s 0 0 (pI PO)) w 0 0 27 [some (.ref r), some (.int (iI i))] [] := by
    intro N
    induction N with
    | zero => intro w i hR hF hi hm; exact absurd hm (Nat.not_lt_zero _)
    | succ N ih =>
      intro w i hR hF hi hm
      refine v_iload_n C dX7_load_27 rfl ?_
      refine v_bipush C dX7_load_28 rfl ?_
      refine v_aload_n C dX7_load_30 rfl ?_
      refine v_getf C g70 hR.1 rfl dX7_load_31 ?_
      refine v_imul C dX7_load_34 ?_
      refine v_icmp_ge C (⟨by omega, by omega⟩) (⟨by omega, by omega⟩) (tgt := 51) dX7_load_35 (by decide) (fun c_35 => ?_) (fun c_35 => ?_)
      · have L51 : ∀ (N : Nat) (w : Wd) (av2 fi2 wr2 rm2 rc2 t8 s8 : Int) (B25 B26 B27 B28 B30 B31 : Int → Int) (ac : List (Int × Int × List (Int × Int))), (RefAt G r ad w 0 nw op sm ti sp nm nc sz ts av2 fi2 wr2 rm2 rc2 A1 A3 A4 A9 A10 A11 A13 A14 A15 A16 A18 A20 B25 B26 B27 B28 B30 B31) → (Fr mT w0 w) → (R32 wr2) → (∀ i, ¬ (0 ≤ i ∧ i < 64 * nw) → B25 i = 0) → ((wr2 = -1 ∧ (pro A20 ts nw A1 0 0 (-1) (fun _ => 0)).1 = (pro A20 ts nw A1 av2 t8 s8 B25).1 ∧ (pro A20 ts nw A1 0 0 (-1) (fun _ => 0)).2 = ac ++ (pro A20 ts nw A1 av2 t8 s8 B25).2 ∧ (0 ≤ av2 ∧ av2 ≤ ts ∧ rm2 ≤ av2 ∧ rc2 ≤ av2 ∧ 0 ≤ rc2) ∧ (rm2 = ac.length ∧ rc2 = numC ac) ∧ (if rm2 = 0 then 0 else B26 (rm2 - 1)) = t8 ∧ (if rm2 = 0 then -1 else B27 (rm2 - 1)) = s8 ∧ (0 ≤ t8 ∧ t8 < 1152921504606846976 ∧ -1 ≤ s8 ∧ s8 < 1152921504606846976) ∧ (∀ i, 0 ≤ i → i < 12800 → 0 ≤ B25 i ∧ B25 i ≤ 8) ∧ holds B26 0 (ac.map fun q => q.1) ∧ holds B27 0 (ac.map fun q => q.2.1) ∧ holds B28 0 (ac.map fun q => (q.2.2.length : Int)) ∧ holds B30 0 (plas ac) ∧ holds B31 0 (vals ac)) ∨ (wr2 ≠ -1 ∧ (pro A20 ts nw A1 0 0 (-1) (fun _ => 0)).1 = wr2)) → (0 ≤ av2 ∧ av2 ≤ ts) → ((if wr2 = -1 then ts - av2 + 1 else 0)).toNat < N → V G p l e { frames := 5, cells := 0, slots := 0, locals := 200 } s m args below meth c (MQW G below args s 0 0 (pI PO)) w 0 0 51 [some (.ref r), none] [] := by
          intro N
          induction N with
          | zero => intro w av2 fi2 wr2 rm2 rc2 t8 s8 B25 B26 B27 B28 B30 B31 ac hR hF hwR hz25 hI hav hm; exact absurd hm (Nat.not_lt_zero _)
          | succ N ih =>
            intro w av2 fi2 wr2 rm2 rc2 t8 s8 B25 B26 B27 B28 B30 B31 ac hR hF hwR hz25 hI hav hm
            refine v_aload_n C dX7_load_51 rfl ?_
            refine v_getf C g151 hR.1 rfl dX7_load_52 ?_
            refine v_iconst C dX7_load_55 ?_
            refine v_icmp_ne C (hwR) (⟨by omega, by omega⟩) (tgt := 77) dX7_load_56 (by decide) (fun c_56 => ?_) (fun c_56 => ?_)
            · refine v_aload_n C dX7_load_77 rfl ?_
              refine v_iconst C dX7_load_78 ?_
              refine m_put_21 C p148 hR dX7_load_79 (fun w hR hF9 => ?_)
              have hF := hF.tr hF9
              refine v_aload_n C dX7_load_82 rfl ?_
              refine v_getf C g151 hR.1 rfl dX7_load_83 ?_
              refine v_iconst C dX7_load_86 ?_
              refine v_icmp_ne C (hwR) (⟨by omega, by omega⟩) (tgt := 94) dX7_load_87 (by decide) (fun c_87 => ?_) (fun c_87 => ?_)
              · refine v_aload_n C dX7_load_94 rfl ?_
                refine v_getf C g151 hR.1 rfl dX7_load_95 ?_
                exact v_iret C rfl dX7_load_98 (Nat.le_refl _) (Nat.le_refl _) (by
                      have hI2 := hI.resolve_left (fun g => c_87 g.1)
                      exact hPO _ _ ⟨hF, hI2.2.symm, _, _, _, _, _, _, _, _, _, _, _, Or.inl ⟨by rw [hI2.2]; exact hI2.1, hR⟩, hz25⟩)
              · exact absurd c_87 c_56
            · refine v_aload_n C dX7_load_59 rfl ?_
              refine v_getf C g157 hR.1 rfl dX7_load_60 ?_
              refine v_aload_n C dX7_load_63 rfl ?_
              refine v_getf C g148 hR.1 rfl dX7_load_64 ?_
              refine v_icmp_ge C (⟨by omega, by omega⟩) (⟨by omega, by omega⟩) (tgt := 77) dX7_load_67 (by decide) (fun c_67 => ?_) (fun c_67 => ?_)
              · refine v_aload_n C dX7_load_77 rfl ?_
                refine v_iconst C dX7_load_78 ?_
                refine m_put_21 C p148 hR dX7_load_79 (fun w hR hF9 => ?_)
                have hF := hF.tr hF9
                refine v_aload_n C dX7_load_82 rfl ?_
                refine v_getf C g151 hR.1 rfl dX7_load_83 ?_
                refine v_iconst C dX7_load_86 ?_
                refine v_icmp_ne C (hwR) (⟨by omega, by omega⟩) (tgt := 94) dX7_load_87 (by decide) (fun c_87 => ?_) (fun c_87 => ?_)
                · refine v_aload_n C dX7_load_94 rfl ?_
                  refine v_getf C g151 hR.1 rfl dX7_load_95 ?_
                  exact v_iret C rfl dX7_load_98 (Nat.le_refl _) (Nat.le_refl _) (by
                        have hI2 := hI.resolve_left (fun g => c_87 g.1)
                        exact hPO _ _ ⟨hF, hI2.2.symm, _, _, _, _, _, _, _, _, _, _, _, Or.inl ⟨by rw [hI2.2]; exact hI2.1, hR⟩, hz25⟩)
                · obtain ⟨u1, u2, u3, u4, u5, u6, u7, u8, u9, u10, u11, u12, u13, u14⟩ := hI.resolve_right (fun g => g.1 c_87)
                  rw [pro_0 (a := av2) (by omega)] at u2 u3
                  rw [List.append_nil] at u3
                  have hprk := pro_ok (T := A20) (N := ts) (nw := nw) (A1 := A1) h1 (ts - 0).toNat 0 0 (-1) (fun _ => 0) (Nat.le_refl _) (by omega) (by omega) ⟨by omega, by omega⟩ ⟨by omega, by omega⟩ u2
                  rw [u3] at hprk
                  obtain ⟨hokR, hcnt⟩ := hprk
                  have hEnR := encAll_len hokR (by omega)
                  have q1 := u10
                  have q2 := u11
                  have q3 := u12
                  have q4 := u13
                  have q5 := u14
                  refine v_aload_n C dX7_load_90 rfl ?_
                  refine v_callVv C (q := (RX7, TX7, 33)) (As := []) (rest := []) (c_X7_again hR h0 hz3 hz4 hokR ⟨by omega, by omega⟩ (by omega) hEnR q1 q2 q3 q4 q5) (cwV 0 hts gX7_load_X7_again rfl rfl rfl (by decide +kernel) ⟨Nat.le_of_ble_eq_true rfl, Nat.le_of_ble_eq_true rfl⟩) hR.1 rfl rfl rfl (Nat.le_of_ble_eq_true rfl) dX7_load_91 (Nat.le_of_ble_eq_true rfl) (Nat.le_of_ble_eq_true rfl) (fun w hp => ?_)
                  obtain ⟨hR, hF9⟩ := hp
                  have hF := hF.tr hF9
                  refine v_wide (k' := 0) (z' := 0) (Nat.le_refl _) (Nat.le_refl _) ?_
                  refine v_aload_n C dX7_load_94 rfl ?_
                  refine v_getf C g151 hR.1 rfl dX7_load_95 ?_
                  exact v_iret C rfl dX7_load_98 (Nat.le_refl _) (Nat.le_refl _) (by
                        rw [u5.1, ← u3] at hR
                        rw [c_87] at hR
                        exact hPO _ _ ⟨hF, c_87.trans u2.symm, _, _, _, _, _, _, _, _, _, _, _, Or.inr ⟨u2, hR⟩, hz25⟩)
              · obtain ⟨u1, u2, u3, u4, u5, u6, u7, u8, u9, u10, u11, u12, u13, u14⟩ := hI.resolve_right (fun g => g.1 c_56)
                have h25 := u9
                have hlt : 0 ≤ (if rm2 = 0 then 0 else B26 (rm2 - 1)) ∧ (if rm2 = 0 then 0 else B26 (rm2 - 1)) < 1152921504606846976 := by rw [u6]; exact ⟨u8.1, u8.2.1⟩
                have hls : -1 ≤ (if rm2 = 0 then -1 else B27 (rm2 - 1)) ∧ (if rm2 = 0 then -1 else B27 (rm2 - 1)) < 1152921504606846976 := by rw [u7]; exact ⟨u8.2.2.1, u8.2.2.2⟩
                refine v_aload_n C dX7_load_70 rfl ?_
                refine v_callVv C (q := (RX7, TX7, 33)) (As := []) (rest := []) (c_X7_readMoment hR h0 h1 ⟨by omega, by omega, by omega⟩ hT c_56 ⟨by omega, by omega⟩ ⟨by omega, by omega⟩ h25 hlt hls) (cwV 0 hts gX7_load_X7_readMoment rfl rfl rfl (by decide +kernel) ⟨Nat.le_of_ble_eq_true rfl, Nat.le_of_ble_eq_true rfl⟩) hR.1 rfl rfl rfl (Nat.le_of_ble_eq_true rfl) dX7_load_71 (Nat.le_of_ble_eq_true rfl) (Nat.le_of_ble_eq_true rfl) (fun w hp => ?_)
                obtain ⟨hF9, av3, fi3, rm3, rc3, D25, D26, D27, D28, D30, D31, hR, hok, hwr, hz25b, hav3⟩ := hp
                have hF := hF.tr hF9
                refine v_wide (k' := 0) (z' := 0) (Nat.le_refl _) (Nat.le_refl _) ?_
                refine v_goto C (tgt := 51) dX7_load_74 (by decide) ?_
                obtain ⟨RM, hRM⟩ : ∃ z, z = pmo A20 ts nw A1 av2 (if rm2 = 0 then 0 else B26 (rm2 - 1)) (if rm2 = 0 then -1 else B27 (rm2 - 1)) B25 := ⟨_, rfl⟩
                rw [← hRM] at hR hok hwr
                rw [u6, u7] at hRM
                by_cases g : RM.1 = -1
                · have hgo := pro_go (T := A20) (N := ts) (nw := nw) (A1 := A1) (a := av2) (t := t8) (s := s8) (S := B25) (by omega) (by rw [← hRM]; exact g) (by rw [← hRM]; have hm9 := pmo_ok (T := A20) (N := ts) h1 (a := av2) (t := t8) (s := s8) (S := B25) (by omega) (by omega) ⟨u8.1, u8.2.1⟩ ⟨u8.2.2.1, u8.2.2.2⟩ (by rw [← hRM]; exact g); rw [← hRM] at hm9; omega) hRM
                  have hm9 := pmo_ok (T := A20) (N := ts) h1 (a := av2) (t := t8) (s := s8) (S := B25) (by omega) (by omega) ⟨u8.1, u8.2.1⟩ ⟨u8.2.2.1, u8.2.2.2⟩ (by rw [← hRM]; exact g)
                  rw [← hRM] at hm9
                  obtain ⟨m1, m2, m3, m4, m5, m6, m7, m8, m9⟩ := hm9
                  obtain ⟨k1, k2, k3, k4, k5, k6, k7, k8, k9⟩ := hok g
                  rw [hgo] at u2 u3
                  rw [g] at hR
                  rw [← k1, ← k4] at u2 u3
                  exact ih _ av3 _ (-1) rm3 rc3 RM.2.2.1 RM.2.2.2.1 _ _ _ _ _ _ (ac ++ [(RM.2.2.1, RM.2.2.2.1, RM.2.2.2.2)]) hR hF ⟨by omega, by omega⟩ (fun i a => (hz25b i a).trans (hz25 i a)) (Or.inl ⟨rfl, u2, by rw [u3, List.append_assoc]; rfl, ⟨by omega, by omega, by omega, by rw [k3]; omega, by rw [k3]; omega⟩, ⟨by rw [k2, u5.1, List.length_append]; rfl, by rw [k3, u5.2, numC_app]; rfl⟩, by rw [if_neg (by omega), k5, k2, show rm2 + 1 - 1 = rm2 by omega, upI_eq], by rw [if_neg (by omega), k6, k2, show rm2 + 1 - 1 = rm2 by omega, upI_eq], ⟨m3, m4, by omega, m6⟩, by rw [k4]; exact sfold_bd m9 u9, by rw [k5, List.map_append, holds_app]; exact ⟨holds_upI u10 (by simp; omega), by rw [List.length_map, Int.zero_add, ← u5.1]; exact ⟨upI_eq, trivial⟩⟩, by rw [k6, List.map_append, holds_app]; exact ⟨holds_upI u11 (by simp; omega), by rw [List.length_map, Int.zero_add, ← u5.1]; exact ⟨upI_eq, trivial⟩⟩, by rw [k7, List.map_append, holds_app]; exact ⟨holds_upI u12 (by simp; omega), by rw [List.length_map, Int.zero_add, ← u5.1]; exact ⟨upI_eq, trivial⟩⟩, by rw [k8, plas_app, holds_app]; exact ⟨holds_putL u13 (by rw [plas_len]; omega), by rw [plas_len, Int.zero_add, ← u5.2, show plas [(RM.2.2.1, RM.2.2.2.1, RM.2.2.2.2)] = RM.2.2.2.2.map Prod.fst from List.append_nil _]; exact holds_put _ _ _⟩, by rw [k9, vals_app, holds_app]; exact ⟨holds_putL u14 (by rw [vals_len]; omega), by rw [vals_len, Int.zero_add, ← u5.2, show vals [(RM.2.2.1, RM.2.2.2.1, RM.2.2.2.2)] = RM.2.2.2.2.map Prod.snd from List.append_nil _]; exact holds_put _ _ _⟩⟩) ⟨by omega, by omega⟩ (by rw [if_pos rfl]; rw [if_pos c_56] at hm; omega)
                · have hgo := pro_f (T := A20) (N := ts) (nw := nw) (A1 := A1) (a := av2) (t := t8) (s := s8) (S := B25) (by omega) (by rw [← hRM]; exact g)
                  rw [← hRM] at hgo
                  exact ih _ av3 _ RM.1 rm3 rc3 t8 s8 _ _ _ _ _ _ ac hR hF hwr (fun i a => (hz25b i a).trans (hz25 i a)) (Or.inr ⟨g, u2.trans hgo⟩) hav3 (by rw [if_neg g]; rw [if_pos c_56] at hm; omega)
        refine v_kill 1 sk_2_1 ?_
        have hi9 : i = 64 * nw := by omega
        subst hi9
        rw [zrU_all hz25] at hR
        exact L51 _ _ 0 _ _ 0 0 0 (-1) _ _ _ _ _ _ [] hR hF ⟨by omega, by omega⟩ (fun _ _ => rfl) (Or.inl ⟨rfl, rfl, rfl, ⟨by omega, by omega, by omega, by omega, by omega⟩, ⟨rfl, rfl⟩, rfl, rfl, ⟨by omega, by omega, by omega, by omega⟩, fun _ _ _ => ⟨by omega, by omega⟩, trivial, trivial, trivial, trivial, trivial⟩) ⟨by omega, by omega⟩ (Nat.lt_succ_self _)
      · refine v_aload_n C dX7_load_38 rfl ?_
        refine v_getf C g48 hR.1 rfl dX7_load_39 ?_
        refine v_iload_n C dX7_load_42 rfl ?_
        refine v_iconst C dX7_load_43 ?_
        refine m_st_25 C hR (⟨by omega, by omega⟩) (by omega) (by omega) dX7_load_44 (fun w hR hF9 => ?_)
        have hF := hF.tr hF9
        refine v_iinc C dX7_load_45 rfl sl_2_1 (by decide) rfl ?_
        refine v_goto C (tgt := 27) dX7_load_48 (by decide) ?_
        rw [zrU_up hi.1] at hR
        exact ih _ _ hR hF ⟨by omega, by omega⟩ (by omega)
  exact L27 _ _ 0 (by rw [zrU_0]; exact hR) hF ⟨by omega, by omega⟩ (Nat.lt_succ_self _)
