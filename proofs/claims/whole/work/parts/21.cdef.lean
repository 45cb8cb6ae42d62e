/-! the class's data by predicates -/
def sg (x : Int) : Int := if x < 128 then x else x - 256
theorem sg_r {x : Int} (h : 0 ≤ x ∧ x < 256) : -128 ≤ sg x ∧ sg x < 128 := by
  unfold sg
  by_cases q : x < 128
  · rw [if_pos q]; omega
  · rw [if_neg q]; omega
theorem sg_i8 {x : Int} (hx : R32 x) : (iI x).toInt8.toInt32 = iI (sg (x % 256)) := by
  apply Int32.toInt.inj
  rw [Int8.toInt_toInt32, Int32.toInt_toInt8, iI_t hx, iI_t (by have := sg_r (x := x % 256) ⟨by omega, by omega⟩; exact ⟨by omega, by omega⟩)]
  unfold sg Int.bmod
  simp only []
  by_cases q : x % 256 < 128
  · rw [if_pos q, if_pos (by omega)]; omega
  · rw [if_neg q, if_neg (by omega)]; omega
theorem sg_255 {b : Int} (h : 0 ≤ b ∧ b < 256) : iI (sg b) &&& iI 255 = iI b := by
  have key : ∀ n : Fin 256, (iI (sg (n.val : Int)) &&& iI 255) = iI (n.val : Int) := by decide +kernel
  have := key ⟨b.toNat, by omega⟩
  simp only [Int.toNat_of_nonneg h.1] at this
  exact this
section CD
variable {G : GG} {w w2 : Wd} {S : Nat → Prop}
/-- bytes: the object at r, its array; len of cap are in use -/
def BytesAt (G : GG) (w : Wd) (T r : Nat) (len cap : Int) (b : Int → Int) : Prop := ∃ (kq : Nat) (f : Int → Int), w r = some (T, .inr (3, [.ref kq, .int (iI len)])) ∧ w kq = some (T + 1, .inl (gB G, aI cap f)) ∧ (0 ≤ len ∧ len ≤ cap ∧ 64 ≤ cap ∧ cap ≤ 1000000) ∧ (∀ j, 0 ≤ j → j < len → 0 ≤ b j ∧ b j < 256 ∧ f j = sg (b j)) ∧ (∀ j, 0 ≤ j → j < cap → -128 ≤ f j ∧ f j < 128)
theorem BytesAt.fr {T r : Nat} {len cap : Int} {b : Int → Int} (h : BytesAt G w T r len cap b) (hF : Fr S w w2) (h0 : ¬ S T) (h1 : ¬ S (T + 1)) : BytesAt G w2 T r len cap b := by
  obtain ⟨kq, f, q1, q2, q3⟩ := h
  exact ⟨kq, f, hF _ _ _ h0 q1, hF _ _ _ h1 q2, q3⟩
theorem BytesAt.cg {T r : Nat} {len cap : Int} {b b' : Int → Int} (h : BytesAt G w T r len cap b) (hb : ∀ j, 0 ≤ j → j < len → b' j = b j) : BytesAt G w T r len cap b' := by
  obtain ⟨kq, f, q1, q2, q3, q4, q5⟩ := h
  exact ⟨kq, f, q1, q2, q3, fun j h0 h1 => by rw [hb j h0 h1]; exact q4 j h0 h1, q5⟩
theorem BytesAt.obj {T r : Nat} {len cap : Int} {b : Int → Int} (h : BytesAt G w T r len cap b) : ∃ fs, w r = some (T, .inr (3, fs)) := by
  obtain ⟨kq, f, q1, -⟩ := h
  exact ⟨_, q1⟩
theorem BytesAt.rg {T r : Nat} {len cap : Int} {b : Int → Int} (h : BytesAt G w T r len cap b) : 0 ≤ len ∧ len ≤ cap ∧ 64 ≤ cap ∧ cap ≤ 1000000 := by
  obtain ⟨kq, f, -, -, q3, -⟩ := h
  exact q3
/-- how an array of bytes grows -/
inductive Reach : Int → Int → Prop
  | rf (c : Int) : Reach c c
  | up {c d : Int} : Reach c d → Reach c (2 * d + 1)
theorem Reach.le {c d : Int} (h : Reach c d) (h0 : 0 ≤ c) : c ≤ d := by
  induction h with
  | rf => exact Int.le_refl _
  | up _ ih => omega
theorem Reach.tr {c d x : Int} (h : Reach c d) (h' : Reach d x) : Reach c x := by
  induction h' with
  | rf => exact h
  | up _ ih => exact .up ih
theorem Reach.pre {c x : Int} (h : Reach c x) : x = c ∨ Reach (2 * c + 1) x := by
  induction h with
  | rf => exact Or.inl rfl
  | up _ ih =>
    rcases ih with rfl | ih
    · exact Or.inr (.rf _)
    · exact Or.inr (.up ih)
theorem Reach.tot {c d x : Int} (h : Reach c d) (h' : Reach c x) (h0 : 0 ≤ c) (hx : d ≤ x) : Reach d x := by
  induction h generalizing x with
  | rf => exact h'
  | up hd ih =>
    rename_i d
    have h1 := hd.le h0
    rcases (ih h' (by omega)).pre with rfl | q
    · omega
    · exact q
/-- c' is the least length from c on that has room for l -/
def Cap (c l c' : Int) : Prop := Reach c c' ∧ l ≤ c' ∧ ∀ x, Reach c x → l ≤ x → c' ≤ x
theorem Cap.here {c l : Int} (h0 : 0 ≤ c) (h : l ≤ c) : Cap c l c := ⟨.rf c, h, fun _ hx _ => hx.le h0⟩
theorem Cap.next {c l : Int} (h0 : 0 ≤ c) (h : c < l) (h2 : l ≤ 2 * c + 1) : Cap c l (2 * c + 1) := ⟨.up (.rf c), h2, fun x hx hl => by
  rcases hx.pre with rfl | q
  · omega
  · exact q.le (by omega)⟩
theorem Cap.mono {c l l' d d' : Int} (h : Cap c l d) (h' : Cap c l' d') (hl : l ≤ l') : d ≤ d' := h.2.2 _ h'.1 (Int.le_trans hl h'.2.1)
theorem Cap.tr {c l l' d x : Int} (h0 : 0 ≤ c) (h : Cap c l d) (h' : Cap d l' x) (hl : l ≤ l') : Cap c l' x :=
  ⟨h.1.tr h'.1, h'.2.1, fun y hy hly => h'.2.2 y (h.1.tot hy h0 (h.2.2 y hy (Int.le_trans hl hly))) hly⟩
theorem Cap.uniq {c l d d' : Int} (h : Cap c l d) (h' : Cap c l d') : d = d' := Int.le_antisymm (h.mono h' (Int.le_refl _)) (h'.mono h (Int.le_refl _))
theorem Cap.ge {c l d : Int} (h0 : 0 ≤ c) (h : Cap c l d) : c ≤ d := h.1.le h0
theorem Cap.ex {c l : Int} (h0 : 0 ≤ c) : ∃ d, Cap c l d := by
  generalize hn : (l - c).toNat = n
  induction n using Nat.strongRecOn generalizing c with
  | _ n ih =>
    by_cases h : l ≤ c
    · exact ⟨c, .here h0 h⟩
    · obtain ⟨d, hd⟩ := ih (l - (2 * c + 1)).toNat (by omega) (c := 2 * c + 1) (by omega) rfl
      refine ⟨d, (Reach.up (.rf c)).tr hd.1, hd.2.1, fun x hx hl => ?_⟩
      rcases hx.pre with rfl | q
      · exact absurd hl h
      · exact hd.2.2 x q hl
theorem Cap.sub {c l l' d : Int} (h0 : 0 ≤ c) (h : Cap c l' d) (hl : l ≤ l') {x : Int} (hx : Cap c l x) : Cap x l' d := ⟨hx.1.tot h.1 h0 (hx.2.2 _ h.1 (Int.le_trans hl h.2.1)), h.2.1, fun y hy hly => h.2.2 y (hx.1.tr hy) hly⟩
theorem Cap.top {c l d : Int} (h0 : 0 ≤ c) (h : Cap c l d) : d = c ∨ d < 2 * l + 1 := by
  obtain ⟨h1, h2, h3⟩ := h
  cases h1 with
  | rf => exact Or.inl rfl
  | up hd =>
    rename_i d
    have hq := hd.le h0
    by_cases q : l ≤ d
    · have := h3 _ hd q; omega
    · exact Or.inr (by omega)
theorem Cap.grow {c l d : Int} (h0 : 0 ≤ c) (h : Cap c l d) (hl : c < l) (hl2 : l ≤ 2 * c + 1) : d = 2 * c + 1 := h.uniq (.next h0 hl hl2)
theorem Cap.stay {c l d : Int} (h0 : 0 ≤ c) (h : Cap c l d) (hl : l ≤ c) : d = c := h.uniq (.here h0 hl)
end CD
