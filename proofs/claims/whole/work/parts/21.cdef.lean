/-! the class's data by predicates -/
def sg (x : Int) : Int := if x < 128 then x else x - 256
theorem sg_r {x : Int} (h : 0 ≤ x ∧ x < 256) : -128 ≤ sg x ∧ sg x < 128 := by
  unfold sg
  by_cases q : x < 128
  · rw [if_pos q]; omega
  · rw [if_neg q]; omega
theorem sg_i8 {x : Int} (hx : R32 x) : (iI x).toInt8.toInt32 = iI (sg (x % 256)) := by
  apply Int32.toInt.inj
  rw [Int8.toInt_toInt32, Int32.toInt_toInt8, iI_t hx, iI_t (by have := sg_r (x := x % 256) ⟨by omega, by omega⟩; exact ⟨by omega, by omega⟩)]
  unfold sg Int.bmod
  simp only []
  by_cases q : x % 256 < 128
  · rw [if_pos q, if_pos (by omega)]; omega
  · rw [if_neg q, if_neg (by omega)]; omega
theorem sg_255 {b : Int} (h : 0 ≤ b ∧ b < 256) : iI (sg b) &&& iI 255 = iI b := by
  have key : ∀ n : Fin 256, (iI (sg (n.val : Int)) &&& iI 255) = iI (n.val : Int) := by decide +kernel
  have := key ⟨b.toNat, by omega⟩
  simp only [Int.toNat_of_nonneg h.1] at this
  exact this
section CD
variable {G : GG} {w w2 : Wd} {S : Nat → Prop}
/-- bytes: the object at r, its array; len of cap are in use -/
def BytesAt (G : GG) (w : Wd) (T r : Nat) (len cap : Int) (b : Int → Int) : Prop := ∃ (kq : Nat) (f : Int → Int), w r = some (T, .inr (3, [.ref kq, .int (iI len)])) ∧ w kq = some (T + 1, .inl (gB G, aI cap f)) ∧ (0 ≤ len ∧ len ≤ cap ∧ 64 ≤ cap ∧ cap ≤ 1000000) ∧ (∀ j, 0 ≤ j → j < len → 0 ≤ b j ∧ b j < 256 ∧ f j = sg (b j)) ∧ (∀ j, 0 ≤ j → j < cap → -128 ≤ f j ∧ f j < 128)
theorem BytesAt.fr {T r : Nat} {len cap : Int} {b : Int → Int} (h : BytesAt G w T r len cap b) (hF : Fr S w w2) (h0 : ¬ S T) (h1 : ¬ S (T + 1)) : BytesAt G w2 T r len cap b := by
  obtain ⟨kq, f, q1, q2, q3⟩ := h
  exact ⟨kq, f, hF _ _ _ h0 q1, hF _ _ _ h1 q2, q3⟩
theorem BytesAt.cg {T r : Nat} {len cap : Int} {b b' : Int → Int} (h : BytesAt G w T r len cap b) (hb : ∀ j, 0 ≤ j → j < len → b' j = b j) : BytesAt G w T r len cap b' := by
  obtain ⟨kq, f, q1, q2, q3, q4, q5⟩ := h
  exact ⟨kq, f, q1, q2, q3, fun j h0 h1 => by rw [hb j h0 h1]; exact q4 j h0 h1, q5⟩
theorem BytesAt.obj {T r : Nat} {len cap : Int} {b : Int → Int} (h : BytesAt G w T r len cap b) : ∃ fs, w r = some (T, .inr (3, fs)) := by
  obtain ⟨kq, f, q1, -⟩ := h
  exact ⟨_, q1⟩
theorem BytesAt.rg {T r : Nat} {len cap : Int} {b : Int → Int} (h : BytesAt G w T r len cap b) : 0 ≤ len ∧ len ≤ cap ∧ 64 ≤ cap ∧ cap ≤ 1000000 := by
  obtain ⟨kq, f, -, -, q3, -⟩ := h
  exact q3
/-- how an array of bytes grows -/
def grN : Nat → Int → Int
  | 0, c => c
  | n + 1, c => 2 * grN n c + 1
def Reach (c d : Int) : Prop := ∃ n : Nat, d = grN n c
theorem Reach.rf (c : Int) : Reach c c := ⟨0, rfl⟩
theorem Reach.up {c d : Int} (h : Reach c d) : Reach c (2 * d + 1) := by
  obtain ⟨n, rfl⟩ := h
  exact ⟨n + 1, rfl⟩
theorem Reach.cs {c : Int} {P : Int → Prop} (h0 : P c) (h1 : ∀ d, Reach c d → P d → P (2 * d + 1)) : ∀ {d : Int}, Reach c d → P d := by
  rintro d ⟨n, rfl⟩
  induction n with
  | zero => exact h0
  | succ n ih => exact h1 _ ⟨n, rfl⟩ ih
theorem Reach.le {c d : Int} (h : Reach c d) (h0 : 0 ≤ c) : c ≤ d := Reach.cs (P := fun d => c ≤ d) (Int.le_refl _) (fun d _ ih => by show c ≤ 2 * d + 1; have ih : c ≤ d := ih; omega) h
theorem Reach.tr {c d x : Int} (h : Reach c d) (h' : Reach d x) : Reach c x := Reach.cs (P := fun x => Reach c x) h (fun _ _ ih => Reach.up ih) h'
theorem Reach.pre {c x : Int} (h : Reach c x) : x = c ∨ Reach (2 * c + 1) x := Reach.cs (P := fun x => x = c ∨ Reach (2 * c + 1) x) (Or.inl rfl) (fun d _ ih => by
  rcases ih with rfl | ih
  · exact Or.inr (.rf _)
  · exact Or.inr (.up ih)) h
theorem Reach.tot {c d x : Int} (h : Reach c d) (h' : Reach c x) (h0 : 0 ≤ c) (hx : d ≤ x) : Reach d x :=
  Reach.cs (P := fun d => ∀ x, Reach c x → d ≤ x → Reach d x) (fun x h' _ => h') (fun d hd ih x h' hx => by
    have h1 := hd.le h0
    have hx : 2 * d + 1 ≤ x := hx
    rcases (ih x h' (by omega)).pre with rfl | q
    · omega
    · exact q) h x h' hx
/-- c' is the least length from c on that has room for l -/
def Cap (c l c' : Int) : Prop := Reach c c' ∧ l ≤ c' ∧ ∀ x, Reach c x → l ≤ x → c' ≤ x
theorem Cap.here {c l : Int} (h0 : 0 ≤ c) (h : l ≤ c) : Cap c l c := ⟨.rf c, h, fun _ hx _ => hx.le h0⟩
theorem Cap.next {c l : Int} (h0 : 0 ≤ c) (h : c < l) (h2 : l ≤ 2 * c + 1) : Cap c l (2 * c + 1) := ⟨.up (.rf c), h2, fun x hx hl => by
  rcases hx.pre with rfl | q
  · omega
  · exact q.le (by omega)⟩
theorem Cap.mono {c l l' d d' : Int} (h : Cap c l d) (h' : Cap c l' d') (hl : l ≤ l') : d ≤ d' := h.2.2 _ h'.1 (Int.le_trans hl h'.2.1)
theorem Cap.tr {c l l' d x : Int} (h0 : 0 ≤ c) (h : Cap c l d) (h' : Cap d l' x) (hl : l ≤ l') : Cap c l' x :=
  ⟨h.1.tr h'.1, h'.2.1, fun y hy hly => h'.2.2 y (h.1.tot hy h0 (h.2.2 y hy (Int.le_trans hl hly))) hly⟩
theorem Cap.uniq {c l d d' : Int} (h : Cap c l d) (h' : Cap c l d') : d = d' := Int.le_antisymm (h.mono h' (Int.le_refl _)) (h'.mono h (Int.le_refl _))
theorem Cap.ge {c l d : Int} (h0 : 0 ≤ c) (h : Cap c l d) : c ≤ d := h.1.le h0
theorem Cap.ex {c l : Int} (h0 : 0 ≤ c) : ∃ d, Cap c l d := by
  generalize hn : (l - c).toNat = n
  induction n using Nat.strongRecOn generalizing c with
  | _ n ih =>
    by_cases h : l ≤ c
    · exact ⟨c, .here h0 h⟩
    · obtain ⟨d, hd⟩ := ih (l - (2 * c + 1)).toNat (by omega) (c := 2 * c + 1) (by omega) rfl
      refine ⟨d, (Reach.up (.rf c)).tr hd.1, hd.2.1, fun x hx hl => ?_⟩
      rcases hx.pre with rfl | q
      · exact absurd hl h
      · exact hd.2.2 x q hl
theorem Cap.sub {c l l' d : Int} (h0 : 0 ≤ c) (h : Cap c l' d) (hl : l ≤ l') {x : Int} (hx : Cap c l x) : Cap x l' d := ⟨hx.1.tot h.1 h0 (hx.2.2 _ h.1 (Int.le_trans hl h.2.1)), h.2.1, fun y hy hly => h.2.2 y (hx.1.tr hy) hly⟩
theorem Cap.top {c l d : Int} (h0 : 0 ≤ c) (h : Cap c l d) : d = c ∨ d < 2 * l + 1 := by
  obtain ⟨⟨n, rfl⟩, h2, h3⟩ := h
  cases n with
  | zero => exact Or.inl rfl
  | succ n =>
    have hd : Reach c (grN n c) := ⟨n, rfl⟩
    have hq := hd.le h0
    have e : grN (n + 1) c = 2 * grN n c + 1 := rfl
    by_cases q : l ≤ grN n c
    · have := h3 _ hd q; omega
    · exact Or.inr (by omega)
theorem Cap.grow {c l d : Int} (h0 : 0 ≤ c) (h : Cap c l d) (hl : c < l) (hl2 : l ≤ 2 * c + 1) : d = 2 * c + 1 := h.uniq (.next h0 hl hl2)
theorem Cap.stay {c l d : Int} (h0 : 0 ≤ c) (h : Cap c l d) (hl : l ≤ c) : d = c := h.uniq (.here h0 hl)
end CD
section CD2
variable {G : GG} {w w2 : Wd} {S : Nat → Prop}
/-- the wires: object (tag 2), widths (tag 3) -/
def WiresAt (G : GG) (w : Wd) (r : Nat) (n : Int) (A1 : Int → Int) : Prop := ∃ (kq : Nat) (f : Int → Int), w r = some (2, .inr (8, [.ref kq, .int (iI n)])) ∧ w kq = some (3, .inl (gI G, aI 200 f)) ∧ (0 ≤ n ∧ n ≤ 200) ∧ (∀ i, 0 ≤ i → i < n → f i = A1 i)
theorem WiresAt.fr {r : Nat} {n : Int} {A1 : Int → Int} (h : WiresAt G w r n A1) (hF : Fr S w w2) (h0 : ¬ S 2) (h1 : ¬ S 3) : WiresAt G w2 r n A1 := by
  obtain ⟨kq, f, q1, q2, q3⟩ := h
  exact ⟨kq, f, hF _ _ _ h0 q1, hF _ _ _ h1 q2, q3⟩
theorem WiresAt.obj {r : Nat} {n : Int} {A1 : Int → Int} (h : WiresAt G w r n A1) : ∃ fs, w r = some (2, .inr (8, fs)) := by
  obtain ⟨kq, f, q1, -⟩ := h
  exact ⟨_, q1⟩
/-- a list: its object (tag T), its array (tag T + 1), or the empty array that all share -/
def LA (G : GG) (w : Wd) (T kq : Nat) (cap : Int) (g : Int → Option Nat) : Prop := (kq = gE G ∧ cap = 0) ∨ (w kq = some (T + 1, .inl (gO G, aQ cap g)) ∧ 0 < cap)
theorem LA.fr {T kq : Nat} {cap : Int} {g : Int → Option Nat} (h : LA G w T kq cap g) (hF : Fr S w w2) (h1 : ¬ S (T + 1)) : LA G w2 T kq cap g := h.imp id (fun q => ⟨hF _ _ _ h1 q.1, q.2⟩)
theorem LA.arr {T kq : Nat} {cap : Int} {g : Int → Option Nat} (h : LA G w T kq cap g) (h0 : 0 < cap) : w kq = some (T + 1, .inl (gO G, aQ cap g)) := by
  rcases h with ⟨-, h⟩ | ⟨h, -⟩
  · omega
  · exact h
def LR (G : GG) (w : Wd) (T r : Nat) (mc : Int) (kq : Nat) (cap : Int) (g : Int → Option Nat) (n : Int) (L : Int → Nat) : Prop := w r = some (T, .inr (2, [.int (iI mc), .ref kq, .int (iI n)])) ∧ LA G w T kq cap g ∧ (0 ≤ n ∧ n ≤ cap ∧ cap ≤ 20000000) ∧ (∀ j, 0 ≤ j → j < n → g j = some (L j))
def ListAt (G : GG) (w : Wd) (T r : Nat) (n : Int) (L : Int → Nat) : Prop := ∃ (mc : Int) (kq : Nat) (cap : Int) (g : Int → Option Nat), LR G w T r mc kq cap g n L
theorem ListAt.fr {T r : Nat} {n : Int} {L : Int → Nat} (h : ListAt G w T r n L) (hF : Fr S w w2) (h0 : ¬ S T) (h1 : ¬ S (T + 1)) : ListAt G w2 T r n L := by
  obtain ⟨mc, kq, cap, g, q1, q2, q3⟩ := h
  exact ⟨mc, kq, cap, g, hF _ _ _ h0 q1, q2.fr hF h1, q3⟩
theorem ListAt.obj {T r : Nat} {n : Int} {L : Int → Nat} (h : ListAt G w T r n L) : ∃ fs, w r = some (T, .inr (2, fs)) := by
  obtain ⟨mc, kq, cap, g, q1, -⟩ := h
  exact ⟨_, q1⟩
theorem ListAt.rg {T r : Nat} {n : Int} {L : Int → Nat} (h : ListAt G w T r n L) : 0 ≤ n ∧ n ≤ 20000000 := by
  obtain ⟨mc, kq, cap, g, -, -, q, -⟩ := h
  exact ⟨q.1, by omega⟩
theorem ListAt.cg {T r : Nat} {n : Int} {L L' : Int → Nat} (h : ListAt G w T r n L) (hL : ∀ j, 0 ≤ j → j < n → L' j = L j) : ListAt G w T r n L' := by
  obtain ⟨mc, kq, cap, g, q1, q2, q3, q4⟩ := h
  exact ⟨mc, kq, cap, g, q1, q2, q3, fun j a b => by rw [hL j a b]; exact q4 j a b⟩
/-- all of a list's members are objects of a class, with tags of U -/
def Mem (w : Wd) (U : Nat → Prop) (ci : Nat) (n : Int) (L : Int → Nat) : Prop := ∀ j, 0 ≤ j → j < n → ∃ t vs, U t ∧ w (L j) = some (t, .inr (ci, vs))
theorem Mem.fr {U : Nat → Prop} {ci : Nat} {n : Int} {L : Int → Nat} (h : Mem w U ci n L) (hF : Fr S w w2) (hU : ∀ t, U t → ¬ S t) : Mem w2 U ci n L := fun j a b => by
  obtain ⟨t, vs, u, q⟩ := h j a b
  exact ⟨t, vs, u, hF _ _ _ (hU t u) q⟩
def Hel (w : Wd) (ci : Nat) (cap : Int) (g : Int → Option Nat) : Prop := ∀ j, 0 ≤ j → j < cap → ∀ b, g j = some b → ∃ t vs, w b = some (t, .inr (ci, vs))
theorem Hel.fresh {ci : Nat} {cap : Int} {g : Int → Option Nat} (h : Hel w ci cap g) (hF : Fr (fun _ => False) w w2) : Hel w2 ci cap g := fun j a b y e => by
  obtain ⟨t5, vs, q⟩ := h j a b y e
  exact ⟨t5, vs, hF _ _ _ (fun h9 => h9) q⟩
theorem Mem.hel {U : Nat → Prop} {ci : Nat} {n : Int} {L : Int → Nat} {g : Int → Option Nat} (h : Mem w U ci n L) (hg : ∀ j, 0 ≤ j → j < n → g j = some (L j)) : Hel w ci n g := fun j a b y e => by
  obtain ⟨t5, vs, -, q⟩ := h j a b
  rw [hg j a b] at e
  cases e
  exact ⟨t5, vs, q⟩
def upA (L : Int → Nat) (i : Int) (v : Nat) : Int → Nat := fun j => if j = i then v else L j
def insA {α : Type} (L : Int → α) (i : Int) (v : α) : Int → α := fun j => if j < i then L j else if j = i then v else L (j - 1)
def delA {α : Type} (L : Int → α) (i : Int) : Int → α := fun j => if j < i then L j else L (j + 1)
theorem upA_eq {L : Int → Nat} {i : Int} {v : Nat} : upA L i v i = v := if_pos rfl
theorem upA_ne {L : Int → Nat} {i j : Int} {v : Nat} (h : j ≠ i) : upA L i v j = L j := if_neg h
theorem insA_lo {α : Type} {L : Int → α} {i j : Int} {v : α} (h : j < i) : insA L i v j = L j := if_pos h
theorem insA_at {α : Type} {L : Int → α} {i : Int} {v : α} : insA L i v i = v := (if_neg (Int.lt_irrefl i)).trans (if_pos rfl)
theorem insA_hi {α : Type} {L : Int → α} {i j : Int} {v : α} (h : i < j) : insA L i v j = L (j - 1) := (if_neg (by omega)).trans (if_neg (by omega))
theorem delA_lo {α : Type} {L : Int → α} {i j : Int} (h : j < i) : delA L i j = L j := if_pos h
theorem delA_hi {α : Type} {L : Int → α} {i j : Int} (h : i ≤ j) : delA L i j = L (j + 1) := if_neg (by omega)
def chV (p v b : Int) : List Value := [.int (iI (p / 64)), .int (iI (p % 64)), .int (iI v), .int (iI b)]
end CD2
section CD3
variable {G : GG} {p : Program} {l : Launch} {e : Env} {R : Room} {s : State} {m : MethodId} {args : Array Value} {below : List Frame} {meth : Method} {c : Code} {Q : State → Prop} {y : MethodName} {cc : ByteArray} {nL : Nat} {ret : Option FieldType} {ws : List Cond} {w : Wd} {k z pc : Nat} {ll : List (Option Value)} {st : List Value}
theorem v_alenA (C : Cx G p s m args meth c y cc nL ret ws) {T kq : Nat} {cap : Int} {g : Int → Option Nat} (hA : LA G w T kq cap g) (h0 : 0 ≤ cap) (d : decode cc pc = .ok (.arraylength, 1)) (kk : V G p l e R s m args below meth c Q w k z (pc + 1) ll (.int (iI cap) :: st)) : V G p l e R s m args below meth c Q w k z pc ll (.ref kq :: st) := by
  rcases hA with ⟨rfl, rfl⟩ | ⟨h, -⟩
  · exact v_alenE C d kk
  · exact v_alen C h (n := cap) (i := 3) rfl (Int.toNat_of_nonneg h0) d kk
end CD3
