/-! numbers: an int or a long by an Int -/
def iI (z : Int) : Int32 := Int32.ofInt z
def lI (z : Int) : Int64 := Int64.ofInt z
abbrev R32 (z : Int) : Prop := -2147483648 ≤ z ∧ z < 2147483648
abbrev R64 (z : Int) : Prop := -9223372036854775808 ≤ z ∧ z < 9223372036854775808
theorem iI_of (x : Int32) : x = iI x.toInt := (Int32.ofInt_toInt x).symm
theorem lI_of (x : Int64) : x = lI x.toInt := (Int64.ofInt_toInt x).symm
theorem R32_of (x : Int32) : R32 x.toInt := ⟨Int32.le_toInt x, Int32.toInt_lt x⟩
theorem R64_of (x : Int64) : R64 x.toInt := ⟨Int64.le_toInt x, Int64.toInt_lt x⟩
theorem iI_t {z : Int} (h : R32 z) : (iI z).toInt = z := Int32.toInt_ofInt_of_le (by omega) (by omega)
theorem lI_t {z : Int} (h : R64 z) : (lI z).toInt = z := Int64.toInt_ofInt_of_le (by omega) (by omega)
theorem iI_add (a b : Int) : iI a + iI b = iI (a + b) := (Int32.ofInt_add a b).symm
theorem iI_sub (a b : Int) : iI a - iI b = iI (a - b) := (Int32.ofInt_sub a b).symm
theorem iI_mul (a b : Int) : iI a * iI b = iI (a * b) := (Int32.ofInt_mul a b).symm
theorem lI_add (a b : Int) : lI a + lI b = lI (a + b) := (Int64.ofInt_add a b).symm
theorem lI_sub (a b : Int) : lI a - lI b = lI (a - b) := (Int64.ofInt_sub a b).symm
theorem lI_mul (a b : Int) : lI a * lI b = lI (a * b) := (Int64.ofInt_mul a b).symm
theorem iI_le {a b : Int} (ha : R32 a) (hb : R32 b) : iI a ≤ iI b ↔ a ≤ b := by rw [Int32.le_iff_toInt_le, iI_t ha, iI_t hb]
theorem iI_lt {a b : Int} (ha : R32 a) (hb : R32 b) : iI a < iI b ↔ a < b := by rw [Int32.lt_iff_toInt_lt, iI_t ha, iI_t hb]
theorem iI_eq {a b : Int} (ha : R32 a) (hb : R32 b) : iI a = iI b ↔ a = b := by rw [← Int32.toInt_inj, iI_t ha, iI_t hb]
theorem lI_le {a b : Int} (ha : R64 a) (hb : R64 b) : lI a ≤ lI b ↔ a ≤ b := by rw [Int64.le_iff_toInt_le, lI_t ha, lI_t hb]
theorem lI_lt {a b : Int} (ha : R64 a) (hb : R64 b) : lI a < lI b ↔ a < b := by rw [Int64.lt_iff_toInt_lt, lI_t ha, lI_t hb]
theorem lI_eq {a b : Int} (ha : R64 a) (hb : R64 b) : lI a = lI b ↔ a = b := by rw [← Int64.toInt_inj, lI_t ha, lI_t hb]
theorem iI_0 : (0 : Int32) = iI 0 := rfl
theorem lI_0 : (0 : Int64) = lI 0 := rfl
theorem iI_div {a b : Int} (ha : R32 a) (h0 : 0 ≤ a) (hb : R32 b) (hb0 : 0 < b) : iI a / iI b = iI (a / b) := by
  have hd : a / b ≤ a := Int.ediv_le_self _ h0
  have hd0 : 0 ≤ a / b := Int.ediv_nonneg h0 (by omega)
  apply Int32.toInt.inj
  rw [Int32.toInt_div_of_ne_right _ _ (fun h => by have := congrArg Int32.toInt h; rw [iI_t hb] at this; change b = -1 at this; omega), iI_t ha, iI_t hb, iI_t ⟨by omega, by omega⟩, Int.tdiv_eq_ediv_of_nonneg h0]
theorem lI_div {a b : Int} (ha : R64 a) (h0 : 0 ≤ a) (hb : R64 b) (hb0 : 0 < b) : lI a / lI b = lI (a / b) := by
  have hd : a / b ≤ a := Int.ediv_le_self _ h0
  have hd0 : 0 ≤ a / b := Int.ediv_nonneg h0 (by omega)
  apply Int64.toInt.inj
  rw [Int64.toInt_div_of_ne_right _ _ (fun h => by have := congrArg Int64.toInt h; rw [lI_t hb] at this; change b = -1 at this; omega), lI_t ha, lI_t hb, lI_t ⟨by omega, by omega⟩, Int.tdiv_eq_ediv_of_nonneg h0]
theorem iI_rem {a b : Int} (ha : R32 a) (h0 : 0 ≤ a) (hb : R32 b) (hb0 : 0 < b) : iI a - iI a / iI b * iI b = iI (a % b) := by
  rw [iI_div ha h0 hb hb0, iI_mul, iI_sub, Int.mul_comm, Int.emod_def]
theorem lI_rem {a b : Int} (ha : R64 a) (h0 : 0 ≤ a) (hb : R64 b) (hb0 : 0 < b) : lI a - lI a / lI b * lI b = lI (a % b) := by
  rw [lI_div ha h0 hb hb0, lI_mul, lI_sub, Int.mul_comm, Int.emod_def]
theorem i2l_I {a : Int} (ha : R32 a) : (iI a).toInt64 = lI a := Int32.toInt64_ofInt (by show -2147483648 ≤ a; omega) (by show a ≤ 2147483647; omega)
theorem l2i_I (a : Int) : (lI a).toInt32 = iI a := Int64.toInt32_ofInt
theorem iI_clamp {a : Int} (ha : R32 a) : (iI a).toNatClampNeg = a.toNat := Int32.toNatClampNeg_ofInt_of_le (by omega) (by omega)
theorem iI_in {a n : Int} (ha : R32 a) (h0 : 0 ≤ a) (h : a < n) : vp_in (iI a) n.toNat := by
  rintro (h1 | h1)
  · have h2 := (iI_lt (b := 0) ha ⟨by omega, by omega⟩).mp h1
    omega
  · rw [iI_clamp ha] at h1
    omega
theorem iI_ne0 {b : Int} (hb : R32 b) (h : b ≠ 0) : ¬ iI b = 0 := fun q => h ((iI_eq (b := 0) hb ⟨by omega, by omega⟩).mp q)
theorem lI_ne0 {b : Int} (hb : R64 b) (h : b ≠ 0) : ¬ lI b = 0 := fun q => h ((lI_eq (b := 0) hb ⟨by omega, by omega⟩).mp q)
theorem iI_cat (x : Int32) : (Value.int x).category = 1 := rfl
/-! the world: what the cells above the base hold, by their addresses, each with a tag -/
abbrev Wd : Type := Nat → Option (Nat × va_E)
abbrev GG : Type := va_G × (ClassId × ClassId × ClassId × ClassId) × Nat × Heap × Nat × Nat
def gD (G : GG) : va_G := G.1
def gB (G : GG) : ClassId := G.2.1.1
def gI (G : GG) : ClassId := G.2.1.2.1
def gJ (G : GG) : ClassId := G.2.1.2.2.1
def gO (G : GG) : ClassId := G.2.1.2.2.2
def gN (G : GG) : Nat := G.2.2.1
def gH (G : GG) : Heap := G.2.2.2.1
def gE (G : GG) : Nat := G.2.2.2.2.1
def gMi (G : GG) : Nat := G.2.2.2.2.2
def gT (G : GG) : List (ClassId × FieldType) := [(gB G, .byte), (gI G, .int), (gJ G, .long), (gO G, .object "java/lang/Object")]
def gF (G : GG) : Addr → Prop := fun a => gN G ≤ a
/-- casts that many methods need, casts that fail, texts that are thrown -/
def kkC : List (String × String) := [("TraceBook$Change", "java/lang/Object"), ("TraceBook$Moment", "java/lang/Object"), ("java/lang/IllegalArgumentException", "java/lang/IllegalArgumentException"), ("java/lang/IllegalStateException", "java/lang/IllegalStateException"), ("java/lang/IndexOutOfBoundsException", "java/lang/IndexOutOfBoundsException")]
def kkN : List (String × String) := [("java/lang/IllegalStateException", "java/lang/IllegalArgumentException"), ("java/lang/IndexOutOfBoundsException", "java/lang/IllegalArgumentException"), ("java/lang/IllegalArgumentException", "java/lang/IllegalStateException"), ("java/lang/IndexOutOfBoundsException", "java/lang/IllegalStateException"), ("java/lang/IllegalArgumentException", "java/lang/IndexOutOfBoundsException"), ("java/lang/IllegalStateException", "java/lang/IndexOutOfBoundsException")]
def kkS : List (Nat × String) := [(100, "the row would have more than 60000 bytes"), (106, "no such wire or element"), (108, "no such value"), (110, "no moment is open"), (133, "no such moment"), (142, "what is not 0 .. 3"), (144, "no such change"), (164, "m is below 0"), (175, "no such byte"), (180, "the tape would have more than 60000 bytes"), (185, "the tape has not so many bytes"), (42, "the width is not 1 .. 64"), (53, "there are 200 wires"), (56, "a moment was opened"), (68, "no such wire"), (76, "time or step is not 0 .. 2^60 - 1"), (94, "not later than the latest moment")]
def kkD : List MethodName := [⟨"java/lang/RuntimeException", "<init>", "(Ljava/lang/String;)V"⟩, ⟨"java/lang/Exception", "<init>", "(Ljava/lang/String;)V"⟩, ⟨"java/lang/Throwable", "<init>", "(Ljava/lang/String;)V"⟩]
/-- what the machine's tables and statics say, the same at every moment of a run -/
def KKa (G : GG) (U : State) : Prop := va_K (gD G) vwCl (gT G) U ∧
  (va_Z "java/util/ArrayList" "DEFAULTCAPACITY_EMPTY_ELEMENTDATA" "[Ljava/lang/Object;" (.ref (gE G)) (gF G) U (gH G) ∧ gE G < gN G ∧ ∃ cE : Cell, (gH G)[gE G]? = some cE ∧ U.isArrayOf cE (.object "java/lang/Object") ∧ cE.slots.size.toInt32 = iI 0) ∧
  (vx_Zq Bundle.tN "UNASSIGNED_STACK" Bundle.steD (gF G) U (gH G) ∧ vx_Zq Bundle.tN "SUPPRESSED_SENTINEL" Bundle.listD (gF G) U (gH G)) ∧ gN G = (gH G).size ∧ (∀ q ∈ kkC, va_Nw (.castable q.1 q.2) U) ∧ (va_Mi "[Ljava/lang/Object;" (gMi G) U ∧ va_Dc U ∧ va_AO "java/lang/Object" U) ∧ (∀ q ∈ kkN, va_Nc q.1 q.2 U) ∧ ∀ x ∈ kkD, va_Nw (.declares x) U
theorem KKa.moved {G : GG} {u U : State} (hvm : u.vm.Alike U.vm) (h : KKa G u) : KKa G U := ⟨h.1.moved hvm, ⟨va_Z.moved hvm h.2.1.1, h.2.1.2.1, by obtain ⟨cE, g1, g2, g3⟩ := h.2.1.2.2; exact ⟨cE, g1, State.isArrayOf_alike hvm g2, g3⟩⟩, ⟨vx_Zq.moved hvm h.2.2.1.1, vx_Zq.moved hvm h.2.2.1.2⟩, h.2.2.2.1,
  fun q hq => va_tabs (u := u.setVm U.vm) rfl rfl ((Cond.castable_setVm (args := #[]) hvm q.1 q.2).trans (h.2.2.2.2.1 q hq)), ⟨h.2.2.2.2.2.1.1.moved hvm, h.2.2.2.2.2.1.2.1.moved hvm, h.2.2.2.2.2.1.2.2.moved hvm⟩, fun q hq => (h.2.2.2.2.2.2.1 q hq).moved hvm,
  fun x hx => va_tabs (u := u.setVm U.vm) rfl rfl ((Cond.declares_setVm (args := #[]) hvm x).trans (h.2.2.2.2.2.2.2 x hx))⟩
/-- private fields that the nest's classes read of each other -/
def kkF : List (String × Nat × String × String × String) := [("TraceBook", 47, "TraceBook$Wires", "count", "I"), ("TraceBook", 83, "TraceBook$Moment", "time", "J"), ("TraceBook", 87, "TraceBook$Moment", "step", "J"), ("TraceBook", 120, "TraceBook$Moment", "changes", "Ljava/util/ArrayList;"), ("TraceBook", 130, "TraceBook$Row", "moments", "Ljava/util/ArrayList;"), ("TraceBook", 139, "TraceBook$Moment", "place", "I"), ("TraceBook", 148, "TraceBook$Change", "wire", "I"), ("TraceBook", 151, "TraceBook$Change", "element", "I"), ("TraceBook", 154, "TraceBook$Change", "value", "I"), ("TraceBook", 157, "TraceBook$Change", "before", "I"), ("TraceBook", 169, "TraceBook$Row", "bytes", "LTraceBook$Bytes;"), ("TraceBook", 172, "TraceBook$Bytes", "length", "I"), ("TraceBook$Moment", 43, "TraceBook$Change", "wire", "I"), ("TraceBook$Moment", 50, "TraceBook$Change", "value", "I"), ("TraceBook$Reader", 30, "TraceBook$Bytes", "length", "I"), ("TraceBook$Reader", 68, "TraceBook$Moment", "changes", "Ljava/util/ArrayList;"), ("TraceBook$Reader", 92, "TraceBook$Change", "wire", "I"), ("TraceBook$Reader", 95, "TraceBook$Change", "element", "I"), ("TraceBook$Reader", 98, "TraceBook$Wires", "count", "I"), ("TraceBook$Row", 60, "TraceBook$Moment", "time", "J"), ("TraceBook$Row", 66, "TraceBook$Moment", "step", "J"), ("TraceBook$Row", 77, "TraceBook$Bytes", "length", "I"), ("TraceBook$Row", 86, "TraceBook$Moment", "place", "I"), ("TraceBook$Row", 93, "TraceBook$Moment", "changes", "Ljava/util/ArrayList;"), ("TraceBook$Row", 115, "TraceBook$Change", "wire", "I"), ("TraceBook$Row", 118, "TraceBook$Change", "element", "I"), ("TraceBook$Row", 121, "TraceBook$Change", "value", "I")]
def KKs (U : State) : Prop := (∀ q ∈ kkS, ∃ sa, vk_R "TraceBook" q.1 q.2 sa U) ∧ ∀ q ∈ kkF, va_Nw (.fieldLinkNest q.1 q.2.1 q.2.2.1 q.2.2.2.1 q.2.2.2.2 "TraceBook") U
def KK (G : GG) (U : State) : Prop := va_K (gD G) vwCl (gT G) U ∧ KKa G U ∧ KKs U
theorem KK.warm {G : GG} {u U : State} (hW : u.WarmedH U.vm) (h : KK G u) : KK G U := ⟨h.1.moved hW.alike, h.2.1.moved hW.alike, fun q hq => (h.2.2.1 q hq).imp fun _ => vk_R.warm hW, fun q hq => va_Nw.warmF hW (h.2.2.2 q hq)⟩
theorem KK.same {G : GG} {u U : State} (hv : u.vm = U.vm) (h : KK G u) : KK G U := ⟨h.1.moved (by rw [hv]; exact Vm.Alike.refl _), h.2.1.moved (by rw [hv]; exact Vm.Alike.refl _), fun q hq => (h.2.2.1 q hq).imp fun _ => vk_R.same hv.symm, fun q hq => va_Nw.same rfl hv (h.2.2.2 q hq)⟩
def Rep (G : GG) (w : Wd) (H : Heap) : Prop := gN G ≤ H.size ∧ (∀ a, a < gN G → H[a]? = (gH G)[a]?) ∧ ∀ a t e, w a = some (t, e) → gN G ≤ a ∧ va_at (gD G) vwCl (a, e) H
def updW (w : Wd) (a : Nat) (x : Nat × va_E) : Wd := fun b => if b = a then some x else w b
theorem updW_eq (w : Wd) (a : Nat) (x : Nat × va_E) : updW w a x a = some x := if_pos rfl
theorem updW_ne {w : Wd} {a b : Nat} {x : Nat × va_E} (h : b ≠ a) : updW w a x b = w b := if_neg h
theorem updW_tag {w : Wd} {a b : Nat} {t t' : Nat} {e0 e' : va_E} {x : Nat × va_E} (ha : w a = some (t, e0)) (hb : w b = some (t', e')) (h : t' ≠ t) : updW w a x b = some (t', e') := by
  rw [updW_ne (fun q => h (by subst q; rw [ha] at hb; cases hb; rfl))]; exact hb
theorem updW_cell {w : Wd} {a b : Nat} {y y' : Nat × va_E} {x : Nat × va_E} (ha : w a = some y) (hb : w b = some y') (h : y' ≠ y) : updW w a x b = some y' := by
  rw [updW_ne (fun q => h (by subst q; rw [ha] at hb; cases hb; rfl))]; exact hb
theorem updW_new {w : Wd} {a b : Nat} {y' : Nat × va_E} {x : Nat × va_E} (ha : w a = none) (hb : w b = some y') : updW w a x b = some y' := by
  rw [updW_ne (fun q => by subst q; rw [ha] at hb; cases hb)]; exact hb
theorem Rep.lt {G : GG} {w : Wd} {H : Heap} (h : Rep G w H) {a : Nat} {x : Nat × va_E} (ha : w a = some x) : a < H.size := ((h.2.2 a x.1 x.2 ha).2).lt
theorem Rep.put {G : GG} {w : Wd} {H H1 : Heap} (h : Rep G w H) {a : Nat} {t t1 : Nat} {e e1 : va_E} (ha : w a = some (t, e)) (hz : H1.size = H.size) (oq : ∀ q : Nat, q ≠ a → H1[q]? = H[q]?) (he : va_at (gD G) vwCl (a, e1) H1) : Rep G (updW w a (t1, e1)) H1 := by
  have hga := (h.2.2 a t e ha).1
  refine ⟨by rw [hz]; exact h.1, fun b hb => (oq b (by omega)).trans (h.2.1 b hb), fun b t' e' hb => ?_⟩
  by_cases q : b = a
  · subst q
    rw [updW_eq] at hb
    cases hb
    exact ⟨hga, he⟩
  · rw [updW_ne q] at hb
    obtain ⟨h1, h2⟩ := h.2.2 b t' e' hb
    exact ⟨h1, h2.kept (oq b q)⟩
theorem Rep.new {G : GG} {w : Wd} {H H1 : Heap} (h : Rep G w H) {t : Nat} {e1 : va_E} (hz : H.size ≤ H1.size) (oq : ∀ q : Nat, q < H.size → H1[q]? = H[q]?) (he : va_at (gD G) vwCl (H.size, e1) H1) : Rep G (updW w H.size (t, e1)) H1 := by
  refine ⟨Nat.le_trans h.1 hz, fun b hb => (oq b (Nat.lt_of_lt_of_le hb h.1)).trans (h.2.1 b hb), fun b t' e' hb => ?_⟩
  by_cases q : b = H.size
  · subst q
    rw [updW_eq] at hb
    cases hb
    exact ⟨h.1, he⟩
  · rw [updW_ne q] at hb
    obtain ⟨h1, h2⟩ := h.2.2 b t' e' hb
    exact ⟨h1, h2.kept (oq b (h.lt hb))⟩
theorem Rep.more {G : GG} {w : Wd} {H H1 : Heap} (h : Rep G w H) (hz : H.size ≤ H1.size) (oq : ∀ q : Nat, q < H.size → H1[q]? = H[q]?) : Rep G w H1 :=
  ⟨Nat.le_trans h.1 hz, fun b hb => (oq b (Nat.lt_of_lt_of_le hb h.1)).trans (h.2.1 b hb), fun b t' e' hb => ⟨(h.2.2 b t' e' hb).1, (h.2.2 b t' e' hb).2.kept (oq b (h.lt hb))⟩⟩
theorem Rep.fresh {G : GG} {w : Wd} {H : Heap} (h : Rep G w H) : w H.size = none := by
  cases hw : w H.size with
  | none => rfl
  | some x => exact absurd (h.lt hw) (Nat.lt_irrefl _)
/-- one cell as a list world -/
theorem Rep.one {G : GG} {w : Wd} {H : Heap} (h : Rep G w H) {a t : Nat} {e : va_E} (ha : w a = some (t, e)) : va_P (gD G) vwCl [(a, e)] H := by
  intro k q hk
  have hz : k < 1 := (List.getElem?_eq_some_iff.mp hk).1
  rw [show k = 0 by omega] at hk
  cases hk
  exact (h.2.2 a t e ha).2
/-- cells whose tags are not of S stay -/
def Fr (S : Nat → Prop) (w w' : Wd) : Prop := ∀ a t e, ¬ S t → w a = some (t, e) → w' a = some (t, e)
theorem Fr.rf {S : Nat → Prop} {w : Wd} : Fr S w w := fun _ _ _ _ h => h
theorem Fr.tr {S : Nat → Prop} {w w1 w2 : Wd} (h : Fr S w w1) (h' : Fr S w1 w2) : Fr S w w2 := fun a t e hs ha => h' a t e hs (h a t e hs ha)
theorem Fr.mono {S S' : Nat → Prop} {w w1 : Wd} (h : Fr S w w1) (hs : ∀ t, S t → S' t) : Fr S' w w1 := fun a t e hn ha => h a t e (fun q => hn (hs t q)) ha
theorem Fr.put {S : Nat → Prop} {w : Wd} {a t : Nat} {e : va_E} {x : Nat × va_E} (ha : w a = some (t, e)) (hs : S t) : Fr S w (updW w a x) := fun b t' e' hn hb => by
  refine updW_tag ha hb (fun q => hn (by rw [q]; exact hs))
theorem Fr.new {S : Nat → Prop} {w : Wd} {a : Nat} {x : Nat × va_E} (ha : w a = none) : Fr S w (updW w a x) := fun b t' e' _ hb => updW_new ha hb
/-! the locals by their places -/
def lvP (ls : Array Slot) (nL : Nat) (ll : List (Option Value)) : Prop := ls.size = nL ∧ lv_wf ls ∧ ∀ (i : Nat) (v : Value), ll[i]? = some (some v) → ls[i]? = some (Slot.val v)
def stL : List (Option Value) → Nat → Value → List (Option Value)
  | [], _, _ => []
  | _ :: l, 0, v => some v :: l
  | x :: l, i + 1, v => x :: stL l i v
def stJ : List (Option Value) → Nat → Value → List (Option Value)
  | _ :: _ :: l, 0, v => some v :: none :: l
  | x :: l, i + 1, v => x :: stJ l i v
  | l, _, _ => l
def stK : List (Option Value) → Nat → List (Option Value)
  | [], _ => []
  | _ :: l, 0 => none :: l
  | x :: l, i + 1 => x :: stK l i
def prOK (ll : List (Option Value)) (i : Nat) : Bool := match i with
  | 0 => true
  | j + 1 => match ll[j]? with
    | some (some (.long _)) => false
    | some (some (.double _)) => false
    | _ => true
theorem prOK_spec {ll : List (Option Value)} {i : Nat} (h : prOK ll i = true) {j : Nat} {v : Value} (hj : ll[j]? = some (some v)) (hi : j + 1 = i) : v.category ≠ 2 := by
  subst hi
  simp only [prOK, hj] at h
  cases v <;> simp_all [Value.category]
theorem stL_get {v : Value} : ∀ {ll : List (Option Value)} {i j : Nat} {u : Value}, (stL ll i v)[j]? = some (some u) → (j = i ∧ u = v) ∨ (j ≠ i ∧ ll[j]? = some (some u))
  | [], _, _, _, h => by simp [stL] at h
  | _ :: l, 0, 0, u, h => by simp [stL] at h; exact Or.inl ⟨rfl, h.symm⟩
  | _ :: l, 0, j + 1, u, h => by simp [stL] at h; exact Or.inr ⟨by omega, by simpa using h⟩
  | x :: l, i + 1, 0, u, h => by simp [stL] at h; exact Or.inr ⟨by omega, by simpa using h⟩
  | x :: l, i + 1, j + 1, u, h => by
    simp [stL] at h
    rcases stL_get (ll := l) (i := i) (j := j) (by simpa using h) with ⟨h1, h2⟩ | ⟨h1, h2⟩
    · exact Or.inl ⟨by omega, h2⟩
    · exact Or.inr ⟨by omega, by simpa using h2⟩
theorem stJ_get {v : Value} : ∀ {ll : List (Option Value)} {i j : Nat} {u : Value}, i + 1 < ll.length → (stJ ll i v)[j]? = some (some u) → (j = i ∧ u = v) ∨ (j ≠ i ∧ j ≠ i + 1 ∧ ll[j]? = some (some u))
  | [], _, _, _, hl, h => by simp at hl
  | [_], _, _, _, hl, h => by simp at hl
  | _ :: _ :: l, 0, 0, u, hl, h => by simp [stJ] at h; exact Or.inl ⟨rfl, h.symm⟩
  | _ :: _ :: l, 0, 1, u, hl, h => by simp [stJ] at h
  | _ :: _ :: l, 0, j + 2, u, hl, h => by simp [stJ] at h; exact Or.inr ⟨by omega, by omega, by simpa using h⟩
  | x :: y :: l, i + 1, 0, u, hl, h => by simp [stJ] at h; exact Or.inr ⟨by omega, by omega, by simpa using h⟩
  | x :: y :: l, i + 1, j + 1, u, hl, h => by
    rcases stJ_get (ll := y :: l) (i := i) (j := j) (u := u) (by simp at hl ⊢; omega) (by simpa [stJ] using h) with ⟨h1, h2⟩ | ⟨h1, h2, h3⟩
    · exact Or.inl ⟨by omega, h2⟩
    · exact Or.inr ⟨by omega, by omega, by simpa using h3⟩
theorem stK_get : ∀ {ll : List (Option Value)} {i j : Nat} {u : Value}, (stK ll i)[j]? = some (some u) → ll[j]? = some (some u)
  | [], _, _, _, h => by simp [stK] at h
  | _ :: l, 0, 0, u, h => by simp [stK] at h
  | _ :: l, 0, j + 1, u, h => by simpa [stK] using h
  | x :: l, i + 1, 0, u, h => by simpa [stK] using h
  | x :: l, i + 1, j + 1, u, h => by
    have := stK_get (ll := l) (i := i) (j := j) (u := u) (by simpa [stK] using h)
    simpa using this
theorem lvP.kill {ls : Array Slot} {nL : Nat} {ll : List (Option Value)} (h : lvP ls nL ll) (i : Nat) : lvP ls nL (stK ll i) := ⟨h.1, h.2.1, fun j v hj => h.2.2 j v (stK_get hj)⟩
theorem lvP.nil {ls : Array Slot} {nL : Nat} {ll : List (Option Value)} (h : lvP ls nL ll) : lv_has ls nL [] := ⟨h.1, h.2.1, fun q hq => nomatch hq⟩
/-- fewer values known -/
def lvLe : List (Option Value) → List (Option Value) → Prop
  | [], _ => True
  | none :: a, _ :: b => lvLe a b
  | some v :: a, some v' :: b => v = v' ∧ lvLe a b
  | _, _ => False
theorem lvLe_get : ∀ {a b : List (Option Value)} {j : Nat} {u : Value}, lvLe a b → a[j]? = some (some u) → b[j]? = some (some u)
  | [], _, _, _, _, h => by simp at h
  | none :: a, _ :: b, 0, u, _, h => by simp at h
  | none :: a, _ :: b, j + 1, u, hl, h => by
    have := lvLe_get (a := a) (b := b) (j := j) (u := u) hl (by simpa using h)
    simpa using this
  | some v :: a, some v' :: b, 0, u, hl, h => by simp at h; obtain ⟨h1, _⟩ := hl; simp [← h, h1]
  | some v :: a, some v' :: b, j + 1, u, hl, h => by
    have := lvLe_get (a := a) (b := b) (j := j) (u := u) hl.2 (by simpa using h)
    simpa using this
  | none :: a, [], _, _, hl, _ => False.elim hl
  | some v :: a, [], _, _, hl, _ => False.elim hl
  | some v :: a, none :: b, _, _, hl, _ => False.elim hl
theorem lvP.le {ls : Array Slot} {nL : Nat} {a b : List (Option Value)} (h : lvP ls nL b) (hl : lvLe a b) : lvP ls nL a := ⟨h.1, h.2.1, fun j v hj => h.2.2 j v (lvLe_get hl hj)⟩
theorem lvP_st1 {ls : Array Slot} {nL : Nat} {ll : List (Option Value)} {i : Nat} {v : Value} (h : lvP ls nL ll) (hi : i < nL) (hc : v.category = 1) (hp : prOK ll i = true) : ∃ ls', storeLocals ls i v = some ls' ∧ lvP ls' nL (stL ll i v) := by
  obtain ⟨ls', h1, h2⟩ := lv_store1 (l := []) (v := v) ⟨h.1, h.2.1, fun q hq => nomatch hq⟩ hi hc
  refine ⟨ls', h1, h2.1, h2.2.1, fun j u hj => ?_⟩
  rcases stL_get hj with ⟨rfl, rfl⟩ | ⟨hne, hj2⟩
  · exact h2.2.2 (j, u) List.mem_cons_self
  · obtain ⟨ls2, h3, h4⟩ := lv_store1 (l := [(j, u)]) (v := v) ⟨h.1, h.2.1, fun q hq => by rw [List.mem_singleton.mp hq]; exact h.2.2 j u hj2⟩ hi hc
    rw [h1] at h3
    cases h3
    refine h4.2.2 (j, u) (List.mem_cons_of_mem _ (List.mem_filter.mpr ⟨List.mem_singleton.mpr rfl, ?_⟩))
    by_cases q : j + 1 = i
    · have := prOK_spec hp hj2 q
      simp [hne, this]
    · simp [hne, q]
theorem lvP_st2 {ls : Array Slot} {nL : Nat} {ll : List (Option Value)} {i : Nat} {v : Value} (h : lvP ls nL ll) (hi : i + 1 < nL) (hl : i + 1 < ll.length) (hc : v.category = 2) (hp : prOK ll i = true) : ∃ ls', storeLocals ls i v = some ls' ∧ lvP ls' nL (stJ ll i v) := by
  obtain ⟨ls', h1, h2⟩ := lv_store2 (l := []) (v := v) ⟨h.1, h.2.1, fun q hq => nomatch hq⟩ hi hc
  refine ⟨ls', h1, h2.1, h2.2.1, fun j u hj => ?_⟩
  rcases stJ_get hl hj with ⟨rfl, rfl⟩ | ⟨hne, hne2, hj2⟩
  · exact h2.2.2 (j, u) List.mem_cons_self
  · obtain ⟨ls2, h3, h4⟩ := lv_store2 (l := [(j, u)]) (v := v) ⟨h.1, h.2.1, fun q hq => by rw [List.mem_singleton.mp hq]; exact h.2.2 j u hj2⟩ hi hc
    rw [h1] at h3
    cases h3
    refine h4.2.2 (j, u) (List.mem_cons_of_mem _ (List.mem_filter.mpr ⟨List.mem_singleton.mpr rfl, ?_⟩))
    by_cases q : j + 1 = i
    · have := prOK_spec hp hj2 q
      simp [hne, hne2, this]
    · simp [hne, hne2, q]
/-- the words that hold in a method's body -/
def Cx (G : GG) (p : Program) (s : State) (m : MethodId) (args : Array Value) (meth : Method) (c : Code) (y : MethodName) (cc : ByteArray) (nL : Nat) (ret : Option FieldType) (ws : List Cond) : Prop :=
  p.tables.exec = Jvm.exec ∧ c.code = cc ∧ c.maxLocals = nL ∧ s.vm.findClass y.cls = some m.cls ∧ (∀ w ∈ ws, w.before args s = true) ∧ meth.sig.returnType = ret ∧ meth.locks = false ∧ KK G s ∧ meth.name = y.name

section VB
variable {G : GG} {p : Program} {l : Launch} {e : Env} {R : Room} {s : State} {m : MethodId} {args : Array Value} {below : List Frame} {meth : Method} {c : Code} {Q : State → Prop} {y : MethodName} {cc : ByteArray} {nL : Nat} {ret : Option FieldType} {ws : List Cond} {w : Wd} {k z pc : Nat} {ll : List (Option Value)} {st : List Value}
def V (G : GG) (p : Program) (l : Launch) (e : Env) (R : Room) (s : State) (m : MethodId) (args : Array Value) (below : List Frame) (meth : Method) (c : Code) (Q : State → Prop) (w : Wd) (k z pc : Nat) (ll : List (Option Value)) (st : List Value) : Prop :=
  ∀ (H : Heap) (locs : List Loc) (ls : Array Slot), Rep G w H → (∀ q ∈ locs, gN G ≤ q.base) → lvP ls c.maxLocals ll → W p l e R s m args below meth c H locs k z Q (F0 m pc ls st)
theorem v_iconst (C : Cx G p s m args meth c y cc nL ret ws) {n : Int} (d : decode cc pc = .ok (.iconst n, 1)) (kk : V G p l e R s m args below meth c Q w k z (pc + 1) ll (.int (iI n) :: st)) : V G p l e R s m args below meth c Q w k z pc ll st := by
  intro H locs ls hR hL hl
  exact lv_iconst C.1 C.2.1 d rfl (kk H locs ls hR hL hl)
theorem v_bipush (C : Cx G p s m args meth c y cc nL ret ws) {n : Int} (d : decode cc pc = .ok (.bipush n, 2)) (hv : (Int8.ofInt n).toInt32 = iI n) (kk : V G p l e R s m args below meth c Q w k z (pc + 2) ll (.int (iI n) :: st)) : V G p l e R s m args below meth c Q w k z pc ll st := by
  intro H locs ls hR hL hl
  exact lv_bipush C.1 C.2.1 d hv (kk H locs ls hR hL hl)
theorem v_sipush (C : Cx G p s m args meth c y cc nL ret ws) {n : Int} (d : decode cc pc = .ok (.sipush n, 3)) (hv : (Int16.ofInt n).toInt32 = iI n) (kk : V G p l e R s m args below meth c Q w k z (pc + 3) ll (.int (iI n) :: st)) : V G p l e R s m args below meth c Q w k z pc ll st := by
  intro H locs ls hR hL hl
  exact lv_sipush C.1 C.2.1 d hv (kk H locs ls hR hL hl)
theorem v_lconst (C : Cx G p s m args meth c y cc nL ret ws) {n : Fin 2} {v : Int} (d : decode cc pc = .ok (.lconst n, 1)) (hv : Int64.ofNat (n : Nat) = lI v) (kk : V G p l e R s m args below meth c Q w k z (pc + 1) ll (.long (lI v) :: st)) : V G p l e R s m args below meth c Q w k z pc ll st := by
  intro H locs ls hR hL hl
  exact lv_lconst C.1 C.2.1 d hv (kk H locs ls hR hL hl)
theorem v_ldc2 (C : Cx G p s m args meth c y cc nL ret ws) {i : Nat} {x : Int64} {v : Int} (hc : Cond.constantLong y.cls i x ∈ ws) (hv : x = lI v) (d : decode cc pc = .ok (.ldc2_w i, 3)) (kk : V G p l e R s m args below meth c Q w k z (pc + 3) ll (.long (lI v) :: st)) : V G p l e R s m args below meth c Q w k z pc ll st := by
  intro H locs ls hR hL hl
  subst hv
  exact lv_ldc2 C.1 C.2.1 C.2.2.2.1 (C.2.2.2.2.1 _ hc) d (kk H locs ls hR hL hl)
theorem v_ldcI (C : Cx G p s m args meth c y cc nL ret ws) {i : Nat} {x : Int32} {v : Int} (hc : Cond.constant y.cls i x ∈ ws) (hv : x = iI v) (d : decode cc pc = .ok (.ldc i, 2)) (kk : V G p l e R s m args below meth c Q w k z (pc + 2) ll (.int (iI v) :: st)) : V G p l e R s m args below meth c Q w k z pc ll st := by
  intro H locs ls hR hL hl
  subst hv
  exact lv_ldc C.1 C.2.1 C.2.2.2.1 (C.2.2.2.2.1 _ hc) d (kk H locs ls hR hL hl)
theorem v_iload_n (C : Cx G p s m args meth c y cc nL ret ws) {i : Fin 4} {x : Int32} (d : decode cc pc = .ok (.iload_n i, 1)) (h : ll[(i : Nat)]? = some (some (.int x))) (kk : V G p l e R s m args below meth c Q w k z (pc + 1) ll (.int x :: st)) : V G p l e R s m args below meth c Q w k z pc ll st := by
  intro H locs ls hR hL hl
  exact lv_iload_n C.1 C.2.1 d rfl (hl.2.2 _ _ h) (kk H locs ls hR hL hl)
theorem v_iload (C : Cx G p s m args meth c y cc nL ret ws) {i : Nat} {x : Int32} (d : decode cc pc = .ok (.iload i, 2)) (h : ll[i]? = some (some (.int x))) (kk : V G p l e R s m args below meth c Q w k z (pc + 2) ll (.int x :: st)) : V G p l e R s m args below meth c Q w k z pc ll st := by
  intro H locs ls hR hL hl
  exact lv_iload C.1 C.2.1 d (hl.2.2 _ _ h) (kk H locs ls hR hL hl)
theorem v_lload_n (C : Cx G p s m args meth c y cc nL ret ws) {i : Fin 4} {x : Int64} (d : decode cc pc = .ok (.lload_n i, 1)) (h : ll[(i : Nat)]? = some (some (.long x))) (kk : V G p l e R s m args below meth c Q w k z (pc + 1) ll (.long x :: st)) : V G p l e R s m args below meth c Q w k z pc ll st := by
  intro H locs ls hR hL hl
  exact lv_lload_n C.1 C.2.1 d rfl (hl.2.2 _ _ h) (kk H locs ls hR hL hl)
theorem v_lload (C : Cx G p s m args meth c y cc nL ret ws) {i : Nat} {x : Int64} (d : decode cc pc = .ok (.lload i, 2)) (h : ll[i]? = some (some (.long x))) (kk : V G p l e R s m args below meth c Q w k z (pc + 2) ll (.long x :: st)) : V G p l e R s m args below meth c Q w k z pc ll st := by
  intro H locs ls hR hL hl
  exact lv_lload C.1 C.2.1 d (hl.2.2 _ _ h) (kk H locs ls hR hL hl)
theorem v_aload_n (C : Cx G p s m args meth c y cc nL ret ws) {i : Fin 4} {x : Nat} (d : decode cc pc = .ok (.aload_n i, 1)) (h : ll[(i : Nat)]? = some (some (.ref x))) (kk : V G p l e R s m args below meth c Q w k z (pc + 1) ll (.ref x :: st)) : V G p l e R s m args below meth c Q w k z pc ll st := by
  intro H locs ls hR hL hl
  exact lv_aload_n C.1 C.2.1 d rfl (hl.2.2 _ _ h) (kk H locs ls hR hL hl)
theorem v_aload (C : Cx G p s m args meth c y cc nL ret ws) {i : Nat} {x : Nat} (d : decode cc pc = .ok (.aload i, 2)) (h : ll[i]? = some (some (.ref x))) (kk : V G p l e R s m args below meth c Q w k z (pc + 2) ll (.ref x :: st)) : V G p l e R s m args below meth c Q w k z pc ll st := by
  intro H locs ls hR hL hl
  exact lv_aload C.1 C.2.1 d (hl.2.2 _ _ h) (kk H locs ls hR hL hl)
theorem v_aload_nN (C : Cx G p s m args meth c y cc nL ret ws) {i : Fin 4} (d : decode cc pc = .ok (.aload_n i, 1)) (h : ll[(i : Nat)]? = some (some .null)) (kk : V G p l e R s m args below meth c Q w k z (pc + 1) ll (.null :: st)) : V G p l e R s m args below meth c Q w k z pc ll st := by
  intro H locs ls hR hL hl
  exact lv_aload_nN C.1 C.2.1 d rfl (hl.2.2 _ _ h) (kk H locs ls hR hL hl)
theorem v_aloadN (C : Cx G p s m args meth c y cc nL ret ws) {i : Nat} (d : decode cc pc = .ok (.aload i, 2)) (h : ll[i]? = some (some .null)) (kk : V G p l e R s m args below meth c Q w k z (pc + 2) ll (.null :: st)) : V G p l e R s m args below meth c Q w k z pc ll st := by
  intro H locs ls hR hL hl
  exact lv_aloadN C.1 C.2.1 d (hl.2.2 _ _ h) (kk H locs ls hR hL hl)
theorem v_istore_n (C : Cx G p s m args meth c y cc nL ret ws) {i : Fin 4} {x : Int32} {ll' : List (Option Value)} (d : decode cc pc = .ok (.istore_n i, 1)) (hs : stL ll (i : Nat) (.int x) = ll') (hi : (i : Nat) < nL) (hp : prOK ll (i : Nat) = true) (kk : V G p l e R s m args below meth c Q w k z (pc + 1) ll' st) : V G p l e R s m args below meth c Q w k z pc ll (.int x :: st) := by
  intro H locs ls hR hL hl
  subst hs
  obtain ⟨hx, hb, hnl, -⟩ := id C
  obtain ⟨ls', e', h'⟩ := lvP_st1 (v := .int x) hl (by rw [hnl]; exact hi) rfl hp
  intro T hT X
  obtain ⟨t, a, b⟩ := kk H locs ls' hR hL h' T hT X
  refine ⟨t, ?_, b⟩
  jvm_step X.here [X.here.top, ↓top_set X.here.top, hx, hb, d, e']
  exact a
theorem v_istore (C : Cx G p s m args meth c y cc nL ret ws) {i : Nat} {x : Int32} {ll' : List (Option Value)} (d : decode cc pc = .ok (.istore i, 2)) (hs : stL ll i (.int x) = ll') (hi : i < nL) (hp : prOK ll i = true) (kk : V G p l e R s m args below meth c Q w k z (pc + 2) ll' st) : V G p l e R s m args below meth c Q w k z pc ll (.int x :: st) := by
  intro H locs ls hR hL hl
  subst hs
  obtain ⟨hx, hb, hnl, -⟩ := id C
  obtain ⟨ls', e', h'⟩ := lvP_st1 (v := .int x) hl (by rw [hnl]; exact hi) rfl hp
  intro T hT X
  obtain ⟨t, a, b⟩ := kk H locs ls' hR hL h' T hT X
  refine ⟨t, ?_, b⟩
  jvm_step X.here [X.here.top, ↓top_set X.here.top, hx, hb, d, e']
  exact a
theorem v_lstore_n (C : Cx G p s m args meth c y cc nL ret ws) {i : Fin 4} {x : Int64} {ll' : List (Option Value)} (d : decode cc pc = .ok (.lstore_n i, 1)) (hs : stJ ll (i : Nat) (.long x) = ll') (hi : (i : Nat) + 1 < nL) (hj : (i : Nat) + 1 < ll.length) (hp : prOK ll (i : Nat) = true) (kk : V G p l e R s m args below meth c Q w k z (pc + 1) ll' st) : V G p l e R s m args below meth c Q w k z pc ll (.long x :: st) := by
  intro H locs ls hR hL hl
  subst hs
  obtain ⟨hx, hb, hnl, -⟩ := id C
  obtain ⟨ls', e', h'⟩ := lvP_st2 (v := .long x) hl (by rw [hnl]; exact hi) hj rfl hp
  intro T hT X
  obtain ⟨t, a, b⟩ := kk H locs ls' hR hL h' T hT X
  refine ⟨t, ?_, b⟩
  jvm_step X.here [X.here.top, ↓top_set X.here.top, hx, hb, d, e']
  exact a
theorem v_lstore (C : Cx G p s m args meth c y cc nL ret ws) {i : Nat} {x : Int64} {ll' : List (Option Value)} (d : decode cc pc = .ok (.lstore i, 2)) (hs : stJ ll i (.long x) = ll') (hi : i + 1 < nL) (hj : i + 1 < ll.length) (hp : prOK ll i = true) (kk : V G p l e R s m args below meth c Q w k z (pc + 2) ll' st) : V G p l e R s m args below meth c Q w k z pc ll (.long x :: st) := by
  intro H locs ls hR hL hl
  subst hs
  obtain ⟨hx, hb, hnl, -⟩ := id C
  obtain ⟨ls', e', h'⟩ := lvP_st2 (v := .long x) hl (by rw [hnl]; exact hi) hj rfl hp
  intro T hT X
  obtain ⟨t, a, b⟩ := kk H locs ls' hR hL h' T hT X
  refine ⟨t, ?_, b⟩
  jvm_step X.here [X.here.top, ↓top_set X.here.top, hx, hb, d, e']
  exact a
theorem v_astore_n (C : Cx G p s m args meth c y cc nL ret ws) {i : Fin 4} {x : Nat} {ll' : List (Option Value)} (d : decode cc pc = .ok (.astore_n i, 1)) (hs : stL ll (i : Nat) (.ref x) = ll') (hi : (i : Nat) < nL) (hp : prOK ll (i : Nat) = true) (kk : V G p l e R s m args below meth c Q w k z (pc + 1) ll' st) : V G p l e R s m args below meth c Q w k z pc ll (.ref x :: st) := by
  intro H locs ls hR hL hl
  subst hs
  obtain ⟨hx, hb, hnl, -⟩ := id C
  obtain ⟨ls', e', h'⟩ := lvP_st1 (v := .ref x) hl (by rw [hnl]; exact hi) rfl hp
  intro T hT X
  obtain ⟨t, a, b⟩ := kk H locs ls' hR hL h' T hT X
  refine ⟨t, ?_, b⟩
  jvm_step X.here [X.here.top, ↓top_set X.here.top, hx, hb, d, e']
  exact ⟨rfl, a⟩
theorem v_astore (C : Cx G p s m args meth c y cc nL ret ws) {i : Nat} {x : Nat} {ll' : List (Option Value)} (d : decode cc pc = .ok (.astore i, 2)) (hs : stL ll i (.ref x) = ll') (hi : i < nL) (hp : prOK ll i = true) (kk : V G p l e R s m args below meth c Q w k z (pc + 2) ll' st) : V G p l e R s m args below meth c Q w k z pc ll (.ref x :: st) := by
  intro H locs ls hR hL hl
  subst hs
  obtain ⟨hx, hb, hnl, -⟩ := id C
  obtain ⟨ls', e', h'⟩ := lvP_st1 (v := .ref x) hl (by rw [hnl]; exact hi) rfl hp
  intro T hT X
  obtain ⟨t, a, b⟩ := kk H locs ls' hR hL h' T hT X
  refine ⟨t, ?_, b⟩
  jvm_step X.here [X.here.top, ↓top_set X.here.top, hx, hb, d, e']
  exact ⟨rfl, a⟩
theorem v_astore_nN (C : Cx G p s m args meth c y cc nL ret ws) {i : Fin 4} {ll' : List (Option Value)} (d : decode cc pc = .ok (.astore_n i, 1)) (hs : stL ll (i : Nat) .null = ll') (hi : (i : Nat) < nL) (hp : prOK ll (i : Nat) = true) (kk : V G p l e R s m args below meth c Q w k z (pc + 1) ll' st) : V G p l e R s m args below meth c Q w k z pc ll (.null :: st) := by
  intro H locs ls hR hL hl
  subst hs
  obtain ⟨hx, hb, hnl, -⟩ := id C
  obtain ⟨ls', e', h'⟩ := lvP_st1 (v := .null) hl (by rw [hnl]; exact hi) rfl hp
  intro T hT X
  obtain ⟨t, a, b⟩ := kk H locs ls' hR hL h' T hT X
  refine ⟨t, ?_, b⟩
  jvm_step X.here [X.here.top, ↓top_set X.here.top, hx, hb, d, e']
  exact ⟨rfl, a⟩
theorem v_astoreN (C : Cx G p s m args meth c y cc nL ret ws) {i : Nat} {ll' : List (Option Value)} (d : decode cc pc = .ok (.astore i, 2)) (hs : stL ll i .null = ll') (hi : i < nL) (hp : prOK ll i = true) (kk : V G p l e R s m args below meth c Q w k z (pc + 2) ll' st) : V G p l e R s m args below meth c Q w k z pc ll (.null :: st) := by
  intro H locs ls hR hL hl
  subst hs
  obtain ⟨hx, hb, hnl, -⟩ := id C
  obtain ⟨ls', e', h'⟩ := lvP_st1 (v := .null) hl (by rw [hnl]; exact hi) rfl hp
  intro T hT X
  obtain ⟨t, a, b⟩ := kk H locs ls' hR hL h' T hT X
  refine ⟨t, ?_, b⟩
  jvm_step X.here [X.here.top, ↓top_set X.here.top, hx, hb, d, e']
  exact ⟨rfl, a⟩
theorem v_kill (i : Nat) {ll' : List (Option Value)} (hs : stK ll i = ll') (kk : V G p l e R s m args below meth c Q w k z pc ll' st) : V G p l e R s m args below meth c Q w k z pc ll st := fun H locs ls hR hL hl => kk H locs ls hR hL (hs ▸ hl.kill i)
theorem v_less {ll' : List (Option Value)} (hs : lvLe ll' ll) (kk : V G p l e R s m args below meth c Q w k z pc ll' st) : V G p l e R s m args below meth c Q w k z pc ll st := fun H locs ls hR hL hl => kk H locs ls hR hL (hl.le hs)
theorem v_iinc (C : Cx G p s m args meth c y cc nL ret ws) {i : Nat} {n x : Int} {ll' : List (Option Value)} (d : decode cc pc = .ok (.iinc i n, 3)) (h : ll[i]? = some (some (.int (iI x)))) (hs : stL ll i (.int (iI (x + n))) = ll') (hi : i < nL) (hp : prOK ll i = true) (kk : V G p l e R s m args below meth c Q w k z (pc + 3) ll' st) : V G p l e R s m args below meth c Q w k z pc ll st := by
  intro H locs ls hR hL hl
  subst hs
  obtain ⟨hx, hb, hnl, -⟩ := id C
  have hg : ls[i]? = some (Slot.val (.int (iI x))) := hl.2.2 _ _ h
  obtain ⟨ls', e', h'⟩ := lvP_st1 (v := .int (iI (x + n))) hl (by rw [hnl]; exact hi) rfl hp
  have e2 : iI (x + n) = iI x + Int32.ofInt n := (iI_add x n).symm
  intro T hT X
  obtain ⟨t, a, b⟩ := kk H locs ls' hR hL h' T hT X
  refine ⟨t, ?_, b⟩
  rw [e2] at e'
  jvm_step X.here [X.here.top, ↓top_set X.here.top, hx, hb, d, hg, e']
  exact a
theorem v_iadd (C : Cx G p s m args meth c y cc nL ret ws) {a b : Int} (d : decode cc pc = .ok (.iadd, 1)) (kk : V G p l e R s m args below meth c Q w k z (pc + 1) ll (.int (iI (a + b)) :: st)) : V G p l e R s m args below meth c Q w k z pc ll (.int (iI b) :: .int (iI a) :: st) := by
  intro H locs ls hR hL hl
  refine lv_iadd C.1 C.2.1 d ?_
  rw [iI_add]
  exact kk H locs ls hR hL hl
theorem v_isub (C : Cx G p s m args meth c y cc nL ret ws) {a b : Int} (d : decode cc pc = .ok (.isub, 1)) (kk : V G p l e R s m args below meth c Q w k z (pc + 1) ll (.int (iI (a - b)) :: st)) : V G p l e R s m args below meth c Q w k z pc ll (.int (iI b) :: .int (iI a) :: st) := by
  intro H locs ls hR hL hl
  refine lv_isub C.1 C.2.1 d ?_
  rw [iI_sub]
  exact kk H locs ls hR hL hl
theorem v_imul (C : Cx G p s m args meth c y cc nL ret ws) {a b : Int} (d : decode cc pc = .ok (.imul, 1)) (kk : V G p l e R s m args below meth c Q w k z (pc + 1) ll (.int (iI (a * b)) :: st)) : V G p l e R s m args below meth c Q w k z pc ll (.int (iI b) :: .int (iI a) :: st) := by
  intro H locs ls hR hL hl
  refine lv_imul C.1 C.2.1 d ?_
  rw [iI_mul]
  exact kk H locs ls hR hL hl
theorem v_idiv (C : Cx G p s m args meth c y cc nL ret ws) {a b : Int} (ha : R32 a) (h0 : 0 ≤ a) (hb : R32 b) (hb0 : 0 < b) (d : decode cc pc = .ok (.idiv, 1)) (kk : V G p l e R s m args below meth c Q w k z (pc + 1) ll (.int (iI (a / b)) :: st)) : V G p l e R s m args below meth c Q w k z pc ll (.int (iI b) :: .int (iI a) :: st) := by
  intro H locs ls hR hL hl
  refine lv_idiv C.1 C.2.1 d (iI_ne0 hb (by omega)) ?_
  rw [iI_div ha h0 hb hb0]
  exact kk H locs ls hR hL hl
theorem v_irem (C : Cx G p s m args meth c y cc nL ret ws) {a b : Int} (ha : R32 a) (h0 : 0 ≤ a) (hb : R32 b) (hb0 : 0 < b) (d : decode cc pc = .ok (.irem, 1)) (kk : V G p l e R s m args below meth c Q w k z (pc + 1) ll (.int (iI (a % b)) :: st)) : V G p l e R s m args below meth c Q w k z pc ll (.int (iI b) :: .int (iI a) :: st) := by
  intro H locs ls hR hL hl
  refine lv_irem C.1 C.2.1 d (iI_ne0 hb (by omega)) ?_
  rw [iI_rem ha h0 hb hb0]
  exact kk H locs ls hR hL hl
theorem v_ladd (C : Cx G p s m args meth c y cc nL ret ws) {a b : Int} (d : decode cc pc = .ok (.ladd, 1)) (kk : V G p l e R s m args below meth c Q w k z (pc + 1) ll (.long (lI (a + b)) :: st)) : V G p l e R s m args below meth c Q w k z pc ll (.long (lI b) :: .long (lI a) :: st) := by
  intro H locs ls hR hL hl
  refine lv_ladd C.1 C.2.1 d ?_
  rw [lI_add]
  exact kk H locs ls hR hL hl
theorem v_lsub (C : Cx G p s m args meth c y cc nL ret ws) {a b : Int} (d : decode cc pc = .ok (.lsub, 1)) (kk : V G p l e R s m args below meth c Q w k z (pc + 1) ll (.long (lI (a - b)) :: st)) : V G p l e R s m args below meth c Q w k z pc ll (.long (lI b) :: .long (lI a) :: st) := by
  intro H locs ls hR hL hl
  refine lv_lsub C.1 C.2.1 d ?_
  rw [lI_sub]
  exact kk H locs ls hR hL hl
theorem v_lmul (C : Cx G p s m args meth c y cc nL ret ws) {a b : Int} (d : decode cc pc = .ok (.lmul, 1)) (kk : V G p l e R s m args below meth c Q w k z (pc + 1) ll (.long (lI (a * b)) :: st)) : V G p l e R s m args below meth c Q w k z pc ll (.long (lI b) :: .long (lI a) :: st) := by
  intro H locs ls hR hL hl
  refine lv_lmul C.1 C.2.1 d ?_
  rw [lI_mul]
  exact kk H locs ls hR hL hl
theorem v_ldiv (C : Cx G p s m args meth c y cc nL ret ws) {a b : Int} (ha : R64 a) (h0 : 0 ≤ a) (hb : R64 b) (hb0 : 0 < b) (d : decode cc pc = .ok (.ldiv, 1)) (kk : V G p l e R s m args below meth c Q w k z (pc + 1) ll (.long (lI (a / b)) :: st)) : V G p l e R s m args below meth c Q w k z pc ll (.long (lI b) :: .long (lI a) :: st) := by
  intro H locs ls hR hL hl
  refine lv_ldiv C.1 C.2.1 d (lI_ne0 hb (by omega)) ?_
  rw [lI_div ha h0 hb hb0]
  exact kk H locs ls hR hL hl
theorem v_lrem (C : Cx G p s m args meth c y cc nL ret ws) {a b : Int} (ha : R64 a) (h0 : 0 ≤ a) (hb : R64 b) (hb0 : 0 < b) (d : decode cc pc = .ok (.lrem, 1)) (kk : V G p l e R s m args below meth c Q w k z (pc + 1) ll (.long (lI (a % b)) :: st)) : V G p l e R s m args below meth c Q w k z pc ll (.long (lI b) :: .long (lI a) :: st) := by
  intro H locs ls hR hL hl
  refine lv_lrem C.1 C.2.1 d (lI_ne0 hb (by omega)) ?_
  rw [lI_rem ha h0 hb hb0]
  exact kk H locs ls hR hL hl
theorem v_iand (C : Cx G p s m args meth c y cc nL ret ws) {a b r : Int} (hr : iI a &&& iI b = iI r) (d : decode cc pc = .ok (.iand, 1)) (kk : V G p l e R s m args below meth c Q w k z (pc + 1) ll (.int (iI r) :: st)) : V G p l e R s m args below meth c Q w k z pc ll (.int (iI b) :: .int (iI a) :: st) := by
  intro H locs ls hR hL hl
  refine lv_iand C.1 C.2.1 d ?_
  rw [hr]
  exact kk H locs ls hR hL hl
theorem v_ior (C : Cx G p s m args meth c y cc nL ret ws) {a b r : Int} (hr : iI a ||| iI b = iI r) (d : decode cc pc = .ok (.ior, 1)) (kk : V G p l e R s m args below meth c Q w k z (pc + 1) ll (.int (iI r) :: st)) : V G p l e R s m args below meth c Q w k z pc ll (.int (iI b) :: .int (iI a) :: st) := by
  intro H locs ls hR hL hl
  refine lv_ior C.1 C.2.1 d ?_
  rw [hr]
  exact kk H locs ls hR hL hl
theorem v_ishl (C : Cx G p s m args meth c y cc nL ret ws) {a b r : Int} (hr : iI a <<< (iI b &&& 31) = iI r) (d : decode cc pc = .ok (.ishl, 1)) (kk : V G p l e R s m args below meth c Q w k z (pc + 1) ll (.int (iI r) :: st)) : V G p l e R s m args below meth c Q w k z pc ll (.int (iI b) :: .int (iI a) :: st) := by
  intro H locs ls hR hL hl
  refine lv_ishl C.1 C.2.1 d ?_
  rw [hr]
  exact kk H locs ls hR hL hl
theorem v_ishr (C : Cx G p s m args meth c y cc nL ret ws) {a b r : Int} (hr : iI a >>> (iI b &&& 31) = iI r) (d : decode cc pc = .ok (.ishr, 1)) (kk : V G p l e R s m args below meth c Q w k z (pc + 1) ll (.int (iI r) :: st)) : V G p l e R s m args below meth c Q w k z pc ll (.int (iI b) :: .int (iI a) :: st) := by
  intro H locs ls hR hL hl
  refine lv_ishr C.1 C.2.1 d ?_
  rw [hr]
  exact kk H locs ls hR hL hl
theorem v_land (C : Cx G p s m args meth c y cc nL ret ws) {a b r : Int} (hr : lI a &&& lI b = lI r) (d : decode cc pc = .ok (.land, 1)) (kk : V G p l e R s m args below meth c Q w k z (pc + 1) ll (.long (lI r) :: st)) : V G p l e R s m args below meth c Q w k z pc ll (.long (lI b) :: .long (lI a) :: st) := by
  intro H locs ls hR hL hl
  refine lv_land C.1 C.2.1 d ?_
  rw [hr]
  exact kk H locs ls hR hL hl
theorem v_lor (C : Cx G p s m args meth c y cc nL ret ws) {a b r : Int} (hr : lI a ||| lI b = lI r) (d : decode cc pc = .ok (.lor, 1)) (kk : V G p l e R s m args below meth c Q w k z (pc + 1) ll (.long (lI r) :: st)) : V G p l e R s m args below meth c Q w k z pc ll (.long (lI b) :: .long (lI a) :: st) := by
  intro H locs ls hR hL hl
  refine lv_lor C.1 C.2.1 d ?_
  rw [hr]
  exact kk H locs ls hR hL hl
theorem v_iushr (C : Cx G p s m args meth c y cc nL ret ws) {a b r : Int} (hr : ((iI a).toUInt32 >>> ((iI b).toUInt32 &&& Int32.toUInt32 31)).toInt32 = iI r) (d : decode cc pc = .ok (.iushr, 1)) (kk : V G p l e R s m args below meth c Q w k z (pc + 1) ll (.int (iI r) :: st)) : V G p l e R s m args below meth c Q w k z pc ll (.int (iI b) :: .int (iI a) :: st) := by
  intro H locs ls hR hL hl
  exact lv_iushr C.1 C.2.1 d hr (kk H locs ls hR hL hl)
theorem v_lushr (C : Cx G p s m args meth c y cc nL ret ws) {a b r : Int} (hr : ((lI a).toUInt64 >>> ((iI b).toInt64.toUInt64 &&& Int64.toUInt64 63)).toInt64 = lI r) (d : decode cc pc = .ok (.lushr, 1)) (kk : V G p l e R s m args below meth c Q w k z (pc + 1) ll (.long (lI r) :: st)) : V G p l e R s m args below meth c Q w k z pc ll (.int (iI b) :: .long (lI a) :: st) := by
  intro H locs ls hR hL hl
  exact lv_lushr C.1 C.2.1 d hr (kk H locs ls hR hL hl)
theorem v_lshl (C : Cx G p s m args meth c y cc nL ret ws) {a b r : Int} (hr : lI a <<< ((iI b).toInt64 &&& 63) = lI r) (d : decode cc pc = .ok (.lshl, 1)) (kk : V G p l e R s m args below meth c Q w k z (pc + 1) ll (.long (lI r) :: st)) : V G p l e R s m args below meth c Q w k z pc ll (.int (iI b) :: .long (lI a) :: st) := by
  intro H locs ls hR hL hl
  exact lv_lshl C.1 C.2.1 d hr (kk H locs ls hR hL hl)
theorem v_lshr (C : Cx G p s m args meth c y cc nL ret ws) {a b r : Int} (hr : lI a >>> ((iI b).toInt64 &&& 63) = lI r) (d : decode cc pc = .ok (.lshr, 1)) (kk : V G p l e R s m args below meth c Q w k z (pc + 1) ll (.long (lI r) :: st)) : V G p l e R s m args below meth c Q w k z pc ll (.int (iI b) :: .long (lI a) :: st) := by
  intro H locs ls hR hL hl
  exact lv_lshr C.1 C.2.1 d hr (kk H locs ls hR hL hl)
theorem v_i2l (C : Cx G p s m args meth c y cc nL ret ws) {a : Int} (ha : R32 a) (d : decode cc pc = .ok (.i2l, 1)) (kk : V G p l e R s m args below meth c Q w k z (pc + 1) ll (.long (lI a) :: st)) : V G p l e R s m args below meth c Q w k z pc ll (.int (iI a) :: st) := by
  intro H locs ls hR hL hl
  exact lv_i2l C.1 C.2.1 d (i2l_I ha) (kk H locs ls hR hL hl)
theorem v_l2i (C : Cx G p s m args meth c y cc nL ret ws) {a : Int} (d : decode cc pc = .ok (.l2i, 1)) (kk : V G p l e R s m args below meth c Q w k z (pc + 1) ll (.int (iI a) :: st)) : V G p l e R s m args below meth c Q w k z pc ll (.long (lI a) :: st) := by
  intro H locs ls hR hL hl
  exact lv_l2i C.1 C.2.1 d (l2i_I a) (kk H locs ls hR hL hl)
theorem v_i2b (C : Cx G p s m args meth c y cc nL ret ws) {a r : Int} (hr : (iI a).toInt8.toInt32 = iI r) (d : decode cc pc = .ok (.i2b, 1)) (kk : V G p l e R s m args below meth c Q w k z (pc + 1) ll (.int (iI r) :: st)) : V G p l e R s m args below meth c Q w k z pc ll (.int (iI a) :: st) := by
  intro H locs ls hR hL hl
  exact lv_i2b C.1 C.2.1 d hr (kk H locs ls hR hL hl)
theorem v_dup (C : Cx G p s m args meth c y cc nL ret ws) {v : Value} (hv : v.category = 1) (d : decode cc pc = .ok (.dup, 1)) (kk : V G p l e R s m args below meth c Q w k z (pc + 1) ll (v :: v :: st)) : V G p l e R s m args below meth c Q w k z pc ll (v :: st) := by
  intro H locs ls hR hL hl
  exact lv_dup C.1 C.2.1 d hv (kk H locs ls hR hL hl)
theorem v_pop (C : Cx G p s m args meth c y cc nL ret ws) {v : Value} (hv : v.category = 1) (d : decode cc pc = .ok (.pop, 1)) (kk : V G p l e R s m args below meth c Q w k z (pc + 1) ll st) : V G p l e R s m args below meth c Q w k z pc ll (v :: st) := by
  intro H locs ls hR hL hl
  exact lv_pop C.1 C.2.1 d hv (kk H locs ls hR hL hl)
theorem v_dup2 (C : Cx G p s m args meth c y cc nL ret ws) {v u : Value} (hv : v.category = 1) (hu : u.category = 1) (d : decode cc pc = .ok (.dup2, 1)) (kk : V G p l e R s m args below meth c Q w k z (pc + 1) ll (v :: u :: v :: u :: st)) : V G p l e R s m args below meth c Q w k z pc ll (v :: u :: st) := by
  intro H locs ls hR hL hl
  exact lv_dup2_11 C.1 C.2.1 d hv hu (kk H locs ls hR hL hl)
theorem v_goto (C : Cx G p s m args meth c y cc nL ret ws) {off : Int} {tgt : Nat} (d : decode cc pc = .ok (.goto off, 3)) (ht : (pc : Int) + off = (tgt : Int)) (kk : V G p l e R s m args below meth c Q w k z tgt ll st) : V G p l e R s m args below meth c Q w k z pc ll st := by
  intro H locs ls hR hL hl
  exact lv_goto C.1 C.2.1 d ht (kk H locs ls hR hL hl)
theorem v_null (C : Cx G p s m args meth c y cc nL ret ws) (d : decode cc pc = .ok (.aconst_null, 1)) (kk : V G p l e R s m args below meth c Q w k z (pc + 1) ll (.null :: st)) : V G p l e R s m args below meth c Q w k z pc ll st := by
  intro H locs ls hR hL hl
  exact lv_null C.1 C.2.1 d (kk H locs ls hR hL hl)
theorem v_ifnonnull (C : Cx G p s m args meth c y cc nL ret ws) {x : Nat} {off : Int} {tgt : Nat} (d : decode cc pc = .ok (.ifnonnull off, 3)) (ht : (pc : Int) + off = (tgt : Int)) (kk : V G p l e R s m args below meth c Q w k z tgt ll st) : V G p l e R s m args below meth c Q w k z pc ll ((.ref x) :: st) := by
  intro H locs ls hR hL hl
  exact lv_ifnonnull C.1 C.2.1 d ht (kk H locs ls hR hL hl)
theorem v_ifnull (C : Cx G p s m args meth c y cc nL ret ws) {x : Nat} {off : Int} (d : decode cc pc = .ok (.ifnull off, 3)) (kk : V G p l e R s m args below meth c Q w k z (pc + 3) ll st) : V G p l e R s m args below meth c Q w k z pc ll ((.ref x) :: st) := by
  intro H locs ls hR hL hl
  exact lv_ifnull C.1 C.2.1 d (kk H locs ls hR hL hl)
theorem v_ifnullN (C : Cx G p s m args meth c y cc nL ret ws) {off : Int} {tgt : Nat} (d : decode cc pc = .ok (.ifnull off, 3)) (ht : (pc : Int) + off = (tgt : Int)) (kk : V G p l e R s m args below meth c Q w k z tgt ll st) : V G p l e R s m args below meth c Q w k z pc ll (.null :: st) := by
  intro H locs ls hR hL hl
  exact lv_ifnullN C.1 C.2.1 d ht (kk H locs ls hR hL hl)
theorem v_ifnonnullN (C : Cx G p s m args meth c y cc nL ret ws) {off : Int} (d : decode cc pc = .ok (.ifnonnull off, 3)) (kk : V G p l e R s m args below meth c Q w k z (pc + 3) ll st) : V G p l e R s m args below meth c Q w k z pc ll (.null :: st) := by
  intro H locs ls hR hL hl
  exact lv_ifnonnullN C.1 C.2.1 d (kk H locs ls hR hL hl)
theorem v_if_eq (C : Cx G p s m args meth c y cc nL ret ws) {a : Int} (ha : R32 a) {off : Int} {tgt : Nat} (d : decode cc pc = .ok (.ifCond .eq off, 3)) (ht : (pc : Int) + off = (tgt : Int)) (kt : a = 0 → V G p l e R s m args below meth c Q w k z tgt ll st) (kf : ¬ a = 0 → V G p l e R s m args below meth c Q w k z (pc + 3) ll st) : V G p l e R s m args below meth c Q w k z pc ll (.int (iI a) :: st) := by
  intro H locs ls hR hL hl
  refine lv_if_eq C.1 C.2.1 d ht (fun h => ?_) (fun h => ?_)
  · exact kt ((iI_eq (b := 0) ha ⟨by omega, by omega⟩).mp h) H locs ls hR hL hl
  · exact kf (fun q => h ((iI_eq (b := 0) ha ⟨by omega, by omega⟩).mpr q)) H locs ls hR hL hl
theorem v_icmp_eq (C : Cx G p s m args meth c y cc nL ret ws) {a b : Int} (ha : R32 a) (hb : R32 b) {off : Int} {tgt : Nat} (d : decode cc pc = .ok (.if_icmp .eq off, 3)) (ht : (pc : Int) + off = (tgt : Int)) (kt : a = b → V G p l e R s m args below meth c Q w k z tgt ll st) (kf : ¬ a = b → V G p l e R s m args below meth c Q w k z (pc + 3) ll st) : V G p l e R s m args below meth c Q w k z pc ll (.int (iI b) :: .int (iI a) :: st) := by
  intro H locs ls hR hL hl
  refine lv_icmp_eq C.1 C.2.1 d ht (fun h => ?_) (fun h => ?_)
  · exact kt ((iI_eq  ha hb).mp h) H locs ls hR hL hl
  · exact kf (fun q => h ((iI_eq  ha hb).mpr q)) H locs ls hR hL hl
theorem v_if_ne (C : Cx G p s m args meth c y cc nL ret ws) {a : Int} (ha : R32 a) {off : Int} {tgt : Nat} (d : decode cc pc = .ok (.ifCond .ne off, 3)) (ht : (pc : Int) + off = (tgt : Int)) (kt : ¬ a = 0 → V G p l e R s m args below meth c Q w k z tgt ll st) (kf : a = 0 → V G p l e R s m args below meth c Q w k z (pc + 3) ll st) : V G p l e R s m args below meth c Q w k z pc ll (.int (iI a) :: st) := by
  intro H locs ls hR hL hl
  refine lv_if_ne C.1 C.2.1 d ht (fun h => ?_) (fun h => ?_)
  · exact kt (fun q => h ((iI_eq (b := 0) ha ⟨by omega, by omega⟩).mpr q)) H locs ls hR hL hl
  · exact kf ((iI_eq (b := 0) ha ⟨by omega, by omega⟩).mp h) H locs ls hR hL hl
theorem v_icmp_ne (C : Cx G p s m args meth c y cc nL ret ws) {a b : Int} (ha : R32 a) (hb : R32 b) {off : Int} {tgt : Nat} (d : decode cc pc = .ok (.if_icmp .ne off, 3)) (ht : (pc : Int) + off = (tgt : Int)) (kt : ¬ a = b → V G p l e R s m args below meth c Q w k z tgt ll st) (kf : a = b → V G p l e R s m args below meth c Q w k z (pc + 3) ll st) : V G p l e R s m args below meth c Q w k z pc ll (.int (iI b) :: .int (iI a) :: st) := by
  intro H locs ls hR hL hl
  refine lv_icmp_ne C.1 C.2.1 d ht (fun h => ?_) (fun h => ?_)
  · exact kt (fun q => h ((iI_eq  ha hb).mpr q)) H locs ls hR hL hl
  · exact kf ((iI_eq  ha hb).mp h) H locs ls hR hL hl
theorem v_if_lt (C : Cx G p s m args meth c y cc nL ret ws) {a : Int} (ha : R32 a) {off : Int} {tgt : Nat} (d : decode cc pc = .ok (.ifCond .lt off, 3)) (ht : (pc : Int) + off = (tgt : Int)) (kt : a < 0 → V G p l e R s m args below meth c Q w k z tgt ll st) (kf : 0 ≤ a → V G p l e R s m args below meth c Q w k z (pc + 3) ll st) : V G p l e R s m args below meth c Q w k z pc ll (.int (iI a) :: st) := by
  intro H locs ls hR hL hl
  refine lv_if_lt C.1 C.2.1 d ht (fun h => ?_) (fun h => ?_)
  · exact kt ((iI_lt (b := 0) ha ⟨by omega, by omega⟩).mp h) H locs ls hR hL hl
  · exact kf (by have h2 := mt (iI_lt (b := 0) ha ⟨by omega, by omega⟩).mpr h; omega) H locs ls hR hL hl
theorem v_icmp_lt (C : Cx G p s m args meth c y cc nL ret ws) {a b : Int} (ha : R32 a) (hb : R32 b) {off : Int} {tgt : Nat} (d : decode cc pc = .ok (.if_icmp .lt off, 3)) (ht : (pc : Int) + off = (tgt : Int)) (kt : a < b → V G p l e R s m args below meth c Q w k z tgt ll st) (kf : b ≤ a → V G p l e R s m args below meth c Q w k z (pc + 3) ll st) : V G p l e R s m args below meth c Q w k z pc ll (.int (iI b) :: .int (iI a) :: st) := by
  intro H locs ls hR hL hl
  refine lv_icmp_lt C.1 C.2.1 d ht (fun h => ?_) (fun h => ?_)
  · exact kt ((iI_lt  ha hb).mp h) H locs ls hR hL hl
  · exact kf (by have h2 := mt (iI_lt  ha hb).mpr h; omega) H locs ls hR hL hl
theorem v_if_ge (C : Cx G p s m args meth c y cc nL ret ws) {a : Int} (ha : R32 a) {off : Int} {tgt : Nat} (d : decode cc pc = .ok (.ifCond .ge off, 3)) (ht : (pc : Int) + off = (tgt : Int)) (kt : 0 ≤ a → V G p l e R s m args below meth c Q w k z tgt ll st) (kf : a < 0 → V G p l e R s m args below meth c Q w k z (pc + 3) ll st) : V G p l e R s m args below meth c Q w k z pc ll (.int (iI a) :: st) := by
  intro H locs ls hR hL hl
  refine lv_if_ge C.1 C.2.1 d ht (fun h => ?_) (fun h => ?_)
  · exact kt ((iI_le (a := 0) (b := a) ⟨by omega, by omega⟩ ha).mp h) H locs ls hR hL hl
  · exact kf (by have h2 := mt (iI_le (a := 0) (b := a) ⟨by omega, by omega⟩ ha).mpr h; omega) H locs ls hR hL hl
theorem v_icmp_ge (C : Cx G p s m args meth c y cc nL ret ws) {a b : Int} (ha : R32 a) (hb : R32 b) {off : Int} {tgt : Nat} (d : decode cc pc = .ok (.if_icmp .ge off, 3)) (ht : (pc : Int) + off = (tgt : Int)) (kt : b ≤ a → V G p l e R s m args below meth c Q w k z tgt ll st) (kf : a < b → V G p l e R s m args below meth c Q w k z (pc + 3) ll st) : V G p l e R s m args below meth c Q w k z pc ll (.int (iI b) :: .int (iI a) :: st) := by
  intro H locs ls hR hL hl
  refine lv_icmp_ge C.1 C.2.1 d ht (fun h => ?_) (fun h => ?_)
  · exact kt ((iI_le (a := b) (b := a) hb ha).mp h) H locs ls hR hL hl
  · exact kf (by have h2 := mt (iI_le (a := b) (b := a) hb ha).mpr h; omega) H locs ls hR hL hl
theorem v_if_gt (C : Cx G p s m args meth c y cc nL ret ws) {a : Int} (ha : R32 a) {off : Int} {tgt : Nat} (d : decode cc pc = .ok (.ifCond .gt off, 3)) (ht : (pc : Int) + off = (tgt : Int)) (kt : 0 < a → V G p l e R s m args below meth c Q w k z tgt ll st) (kf : a ≤ 0 → V G p l e R s m args below meth c Q w k z (pc + 3) ll st) : V G p l e R s m args below meth c Q w k z pc ll (.int (iI a) :: st) := by
  intro H locs ls hR hL hl
  refine lv_if_gt C.1 C.2.1 d ht (fun h => ?_) (fun h => ?_)
  · exact kt ((iI_lt (a := 0) (b := a) ⟨by omega, by omega⟩ ha).mp h) H locs ls hR hL hl
  · exact kf (by have h2 := mt (iI_lt (a := 0) (b := a) ⟨by omega, by omega⟩ ha).mpr h; omega) H locs ls hR hL hl
theorem v_icmp_gt (C : Cx G p s m args meth c y cc nL ret ws) {a b : Int} (ha : R32 a) (hb : R32 b) {off : Int} {tgt : Nat} (d : decode cc pc = .ok (.if_icmp .gt off, 3)) (ht : (pc : Int) + off = (tgt : Int)) (kt : b < a → V G p l e R s m args below meth c Q w k z tgt ll st) (kf : a ≤ b → V G p l e R s m args below meth c Q w k z (pc + 3) ll st) : V G p l e R s m args below meth c Q w k z pc ll (.int (iI b) :: .int (iI a) :: st) := by
  intro H locs ls hR hL hl
  refine lv_icmp_gt C.1 C.2.1 d ht (fun h => ?_) (fun h => ?_)
  · exact kt ((iI_lt (a := b) (b := a) hb ha).mp h) H locs ls hR hL hl
  · exact kf (by have h2 := mt (iI_lt (a := b) (b := a) hb ha).mpr h; omega) H locs ls hR hL hl
theorem v_if_le (C : Cx G p s m args meth c y cc nL ret ws) {a : Int} (ha : R32 a) {off : Int} {tgt : Nat} (d : decode cc pc = .ok (.ifCond .le off, 3)) (ht : (pc : Int) + off = (tgt : Int)) (kt : a ≤ 0 → V G p l e R s m args below meth c Q w k z tgt ll st) (kf : 0 < a → V G p l e R s m args below meth c Q w k z (pc + 3) ll st) : V G p l e R s m args below meth c Q w k z pc ll (.int (iI a) :: st) := by
  intro H locs ls hR hL hl
  refine lv_if_le C.1 C.2.1 d ht (fun h => ?_) (fun h => ?_)
  · exact kt ((iI_le (b := 0) ha ⟨by omega, by omega⟩).mp h) H locs ls hR hL hl
  · exact kf (by have h2 := mt (iI_le (b := 0) ha ⟨by omega, by omega⟩).mpr h; omega) H locs ls hR hL hl
theorem v_icmp_le (C : Cx G p s m args meth c y cc nL ret ws) {a b : Int} (ha : R32 a) (hb : R32 b) {off : Int} {tgt : Nat} (d : decode cc pc = .ok (.if_icmp .le off, 3)) (ht : (pc : Int) + off = (tgt : Int)) (kt : a ≤ b → V G p l e R s m args below meth c Q w k z tgt ll st) (kf : b < a → V G p l e R s m args below meth c Q w k z (pc + 3) ll st) : V G p l e R s m args below meth c Q w k z pc ll (.int (iI b) :: .int (iI a) :: st) := by
  intro H locs ls hR hL hl
  refine lv_icmp_le C.1 C.2.1 d ht (fun h => ?_) (fun h => ?_)
  · exact kt ((iI_le  ha hb).mp h) H locs ls hR hL hl
  · exact kf (by have h2 := mt (iI_le  ha hb).mpr h; omega) H locs ls hR hL hl
theorem lg_cmp_I {a b : Int} (ha : R64 a) (hb : R64 b) : lg_cmp (lI a) (lI b) = iI (if b < a then 1 else if a = b then 0 else -1) := by
  unfold lg_cmp
  by_cases h1 : b < a
  · rw [if_pos (show lI a > lI b from (lI_lt hb ha).mpr h1), if_pos h1]; rfl
  · rw [if_neg (fun q => h1 ((lI_lt hb ha).mp q)), if_neg h1]
    by_cases h2 : a = b
    · rw [if_pos ((lI_eq ha hb).mpr h2), if_pos h2]; rfl
    · rw [if_neg (fun q => h2 ((lI_eq ha hb).mp q)), if_neg h2]; rfl
theorem cmpR (a b : Int) : R32 (if b < a then 1 else if a = b then 0 else -1) := by
  by_cases h : b < a
  · rw [if_pos h]; exact ⟨by omega, by omega⟩
  · rw [if_neg h]
    by_cases h2 : a = b
    · rw [if_pos h2]; exact ⟨by omega, by omega⟩
    · rw [if_neg h2]; exact ⟨by omega, by omega⟩
theorem v_lcmp_eq (C : Cx G p s m args meth c y cc nL ret ws) {a b : Int} (ha : R64 a) (hb : R64 b) {off : Int} {tgt : Nat} (d1 : decode cc pc = .ok (.lcmp, 1)) (d : decode cc (pc + 1) = .ok (.ifCond .eq off, 3)) (ht : ((pc + 1 : Nat) : Int) + off = (tgt : Int)) (kt : a = b → V G p l e R s m args below meth c Q w k z tgt ll st) (kf : ¬ a = b → V G p l e R s m args below meth c Q w k z (pc + 4) ll st) : V G p l e R s m args below meth c Q w k z pc ll (.long (lI b) :: .long (lI a) :: st) := by
  intro H locs ls hR hL hl
  refine W.lcmp C.1 C.2.1 d1 ?_
  rw [lg_cmp_I ha hb]
  refine v_if_eq C (cmpR a b) d ht (fun h => kt ?_) (fun h => kf ?_) H locs ls hR hL hl
  · by_cases h1 : b < a
    · rw [if_pos h1] at h; omega
    · rw [if_neg h1] at h
      by_cases h2 : a = b
      · rw [if_pos h2] at h; omega
      · rw [if_neg h2] at h; omega
  · by_cases h1 : b < a
    · rw [if_pos h1] at h; omega
    · rw [if_neg h1] at h
      by_cases h2 : a = b
      · rw [if_pos h2] at h; omega
      · rw [if_neg h2] at h; omega
theorem v_lcmp_ne (C : Cx G p s m args meth c y cc nL ret ws) {a b : Int} (ha : R64 a) (hb : R64 b) {off : Int} {tgt : Nat} (d1 : decode cc pc = .ok (.lcmp, 1)) (d : decode cc (pc + 1) = .ok (.ifCond .ne off, 3)) (ht : ((pc + 1 : Nat) : Int) + off = (tgt : Int)) (kt : ¬ a = b → V G p l e R s m args below meth c Q w k z tgt ll st) (kf : a = b → V G p l e R s m args below meth c Q w k z (pc + 4) ll st) : V G p l e R s m args below meth c Q w k z pc ll (.long (lI b) :: .long (lI a) :: st) := by
  intro H locs ls hR hL hl
  refine W.lcmp C.1 C.2.1 d1 ?_
  rw [lg_cmp_I ha hb]
  refine v_if_ne C (cmpR a b) d ht (fun h => kt ?_) (fun h => kf ?_) H locs ls hR hL hl
  · by_cases h1 : b < a
    · rw [if_pos h1] at h; omega
    · rw [if_neg h1] at h
      by_cases h2 : a = b
      · rw [if_pos h2] at h; omega
      · rw [if_neg h2] at h; omega
  · by_cases h1 : b < a
    · rw [if_pos h1] at h; omega
    · rw [if_neg h1] at h
      by_cases h2 : a = b
      · rw [if_pos h2] at h; omega
      · rw [if_neg h2] at h; omega
theorem v_lcmp_lt (C : Cx G p s m args meth c y cc nL ret ws) {a b : Int} (ha : R64 a) (hb : R64 b) {off : Int} {tgt : Nat} (d1 : decode cc pc = .ok (.lcmp, 1)) (d : decode cc (pc + 1) = .ok (.ifCond .lt off, 3)) (ht : ((pc + 1 : Nat) : Int) + off = (tgt : Int)) (kt : a < b → V G p l e R s m args below meth c Q w k z tgt ll st) (kf : b ≤ a → V G p l e R s m args below meth c Q w k z (pc + 4) ll st) : V G p l e R s m args below meth c Q w k z pc ll (.long (lI b) :: .long (lI a) :: st) := by
  intro H locs ls hR hL hl
  refine W.lcmp C.1 C.2.1 d1 ?_
  rw [lg_cmp_I ha hb]
  refine v_if_lt C (cmpR a b) d ht (fun h => kt ?_) (fun h => kf ?_) H locs ls hR hL hl
  · by_cases h1 : b < a
    · rw [if_pos h1] at h; omega
    · rw [if_neg h1] at h
      by_cases h2 : a = b
      · rw [if_pos h2] at h; omega
      · rw [if_neg h2] at h; omega
  · by_cases h1 : b < a
    · rw [if_pos h1] at h; omega
    · rw [if_neg h1] at h
      by_cases h2 : a = b
      · rw [if_pos h2] at h; omega
      · rw [if_neg h2] at h; omega
theorem v_lcmp_ge (C : Cx G p s m args meth c y cc nL ret ws) {a b : Int} (ha : R64 a) (hb : R64 b) {off : Int} {tgt : Nat} (d1 : decode cc pc = .ok (.lcmp, 1)) (d : decode cc (pc + 1) = .ok (.ifCond .ge off, 3)) (ht : ((pc + 1 : Nat) : Int) + off = (tgt : Int)) (kt : b ≤ a → V G p l e R s m args below meth c Q w k z tgt ll st) (kf : a < b → V G p l e R s m args below meth c Q w k z (pc + 4) ll st) : V G p l e R s m args below meth c Q w k z pc ll (.long (lI b) :: .long (lI a) :: st) := by
  intro H locs ls hR hL hl
  refine W.lcmp C.1 C.2.1 d1 ?_
  rw [lg_cmp_I ha hb]
  refine v_if_ge C (cmpR a b) d ht (fun h => kt ?_) (fun h => kf ?_) H locs ls hR hL hl
  · by_cases h1 : b < a
    · rw [if_pos h1] at h; omega
    · rw [if_neg h1] at h
      by_cases h2 : a = b
      · rw [if_pos h2] at h; omega
      · rw [if_neg h2] at h; omega
  · by_cases h1 : b < a
    · rw [if_pos h1] at h; omega
    · rw [if_neg h1] at h
      by_cases h2 : a = b
      · rw [if_pos h2] at h; omega
      · rw [if_neg h2] at h; omega
theorem v_lcmp_gt (C : Cx G p s m args meth c y cc nL ret ws) {a b : Int} (ha : R64 a) (hb : R64 b) {off : Int} {tgt : Nat} (d1 : decode cc pc = .ok (.lcmp, 1)) (d : decode cc (pc + 1) = .ok (.ifCond .gt off, 3)) (ht : ((pc + 1 : Nat) : Int) + off = (tgt : Int)) (kt : b < a → V G p l e R s m args below meth c Q w k z tgt ll st) (kf : a ≤ b → V G p l e R s m args below meth c Q w k z (pc + 4) ll st) : V G p l e R s m args below meth c Q w k z pc ll (.long (lI b) :: .long (lI a) :: st) := by
  intro H locs ls hR hL hl
  refine W.lcmp C.1 C.2.1 d1 ?_
  rw [lg_cmp_I ha hb]
  refine v_if_gt C (cmpR a b) d ht (fun h => kt ?_) (fun h => kf ?_) H locs ls hR hL hl
  · by_cases h1 : b < a
    · rw [if_pos h1] at h; omega
    · rw [if_neg h1] at h
      by_cases h2 : a = b
      · rw [if_pos h2] at h; omega
      · rw [if_neg h2] at h; omega
  · by_cases h1 : b < a
    · rw [if_pos h1] at h; omega
    · rw [if_neg h1] at h
      by_cases h2 : a = b
      · rw [if_pos h2] at h; omega
      · rw [if_neg h2] at h; omega
theorem v_lcmp_le (C : Cx G p s m args meth c y cc nL ret ws) {a b : Int} (ha : R64 a) (hb : R64 b) {off : Int} {tgt : Nat} (d1 : decode cc pc = .ok (.lcmp, 1)) (d : decode cc (pc + 1) = .ok (.ifCond .le off, 3)) (ht : ((pc + 1 : Nat) : Int) + off = (tgt : Int)) (kt : a ≤ b → V G p l e R s m args below meth c Q w k z tgt ll st) (kf : b < a → V G p l e R s m args below meth c Q w k z (pc + 4) ll st) : V G p l e R s m args below meth c Q w k z pc ll (.long (lI b) :: .long (lI a) :: st) := by
  intro H locs ls hR hL hl
  refine W.lcmp C.1 C.2.1 d1 ?_
  rw [lg_cmp_I ha hb]
  refine v_if_le C (cmpR a b) d ht (fun h => kt ?_) (fun h => kf ?_) H locs ls hR hL hl
  · by_cases h1 : b < a
    · rw [if_pos h1] at h; omega
    · rw [if_neg h1] at h
      by_cases h2 : a = b
      · rw [if_pos h2] at h; omega
      · rw [if_neg h2] at h; omega
  · by_cases h1 : b < a
    · rw [if_pos h1] at h; omega
    · rw [if_neg h1] at h
      by_cases h2 : a = b
      · rw [if_pos h2] at h; omega
      · rw [if_neg h2] at h; omega
/-! arrays' contents by Ints -/
def aI (n : Int) (g : Int → Int) : vp_A := (n.toNat, .inl (fun j => iI (g (j : Int))))
def aJ (n : Int) (g : Int → Int) : vp_A := (n.toNat, .inr (.inl (fun j => lI (g (j : Int)))))
def aQ (n : Int) (g : Int → Option Nat) : vp_A := (n.toNat, .inr (.inr (.inr (.inr (fun j => g (j : Int))))))
def upI (g : Int → Int) (i x : Int) : Int → Int := fun j => if j = i then x else g j
def upQ (g : Int → Option Nat) (i : Int) (x : Option Nat) : Int → Option Nat := fun j => if j = i then x else g j
theorem upI_eq {g : Int → Int} {i x : Int} : upI g i x i = x := if_pos rfl
theorem upI_ne {g : Int → Int} {i x j : Int} (h : j ≠ i) : upI g i x j = g j := if_neg h
theorem upQ_eq {g : Int → Option Nat} {i : Int} {x : Option Nat} : upQ g i x i = x := if_pos rfl
theorem upQ_ne {g : Int → Option Nat} {i j : Int} {x : Option Nat} (h : j ≠ i) : upQ g i x j = g j := if_neg h
/-- a field found: place idx of this method's pool is field k of class ci -/
def GetF (G : GG) (s : State) (m : MethodId) (args : Array Value) (idx ci k : Nat) : Prop := ∃ (own ref name desc : String) (cf kk i : Nat) (kc : Class) (f : Field), s.vm.findClass own = some m.cls ∧ (Cond.fieldLink own idx ref name desc).before args s = true ∧ s.fieldFound? ref name desc = some (cf, kc, i, f) ∧ f.isStatic = false ∧ f.slot = (gD G).2 ci k ∧ kk = k ∧ ∃ q : vw_C, vwCl[ci]? = some q ∧ k < q.2.2
theorem getF_of (C : Cx G p s m args meth c y cc nL ret ws) (ci k : Nat) {idx : Nat} {T : u_T} {N : Nat} {Cn ref : String} (hc : vwCl[ci]? = some (Cn, T, N)) (hk : k < N) (hin : ∀ w ∈ u_ws Cn T N, w ∈ ws) (hl : Cond.fieldLink y.cls idx ref (T k).2.1 (T k).2.2.1 ∈ ws) (hsame : ∀ x, s.fieldFound? (T k).1 (T k).2.1 (T k).2.2.1 = some x → s.fieldFound? ref (T k).2.1 (T k).2.2.1 = some x) : GetF G s m args idx ci k := by
  obtain ⟨hx, hb, hnl, hown, hts, -, -, hK, -⟩ := id C
  obtain ⟨hS, hfc, kC, hkC, hkind⟩ := hK.1.1 ci _ hc
  obtain ⟨cf, kf, fi, f, hi, hsl⟩ := hS k hk
  exact ⟨_, _, _, _, cf, k, fi, kf, f, hown, hts _ hl, hsame _ hi, (u_facts hfc hkC (u_lays hts hin hk) hi).1, hsl, rfl, _, hc, hk⟩
/-- .. and what may be stored in it -/
def PutF (G : GG) (s : State) (m : MethodId) (args : Array Value) (idx ci k : Nat) (ty : FieldType) : Prop := ∃ (own ref name desc : String) (f : Field), Fd s m args own ref name desc idx f ∧ f.slot = (gD G).2 ci k ∧ (∀ v : Value, narrow ty v = v → fits ty v = true → k2_Sd s f ((gD G).1 ci) v) ∧ ∃ q : vw_C, vwCl[ci]? = some q ∧ k < q.2.2 ∧ ∀ a b, a < q.2.2 → b < q.2.2 → a ≠ b → (gD G).2 ci a ≠ (gD G).2 ci b
theorem putF_of (C : Cx G p s m args meth c y cc nL ret ws) (ci k : Nat) {idx : Nat} {T : u_T} {N : Nat} {Cn ref : String} {ty : FieldType} (ty0 : Nat → FieldType) (hty : ∀ k, k < N → parseFieldDescriptor (T k).2.2.1 = some (ty0 k)) (hnm : ∀ a, a < N → ∀ b, b < N → a ≠ b → (T a).2.1 ≠ (T b).2.1) (hc : vwCl[ci]? = some (Cn, T, N)) (hk : k < N) (hin : ∀ w ∈ u_ws Cn T N, w ∈ ws) (hl : Cond.fieldLink y.cls idx ref (T k).2.1 (T k).2.2.1 ∈ ws) (hsame : ∀ x, s.fieldFound? (T k).1 (T k).2.1 (T k).2.2.1 = some x → s.fieldFound? ref (T k).2.1 (T k).2.2.1 = some x) (hfin : (T k).2.2.2 = false) (hd : parseFieldDescriptor (T k).2.2.1 = some ty) : PutF G s m args idx ci k ty := by
  obtain ⟨hx, hb, hnl, hown, hts, -, -, hK, -⟩ := id C
  have hap := va_apart (own := y.cls) hts hin ty0 hty hnm hK.1 hc
  obtain ⟨hS, hfc, kC, hkC, hkind⟩ := hK.1.1 ci _ hc
  obtain ⟨cf, kf, fi, f, hi, hsl⟩ := hS k hk
  have hlay := hts _ (hin _ (u_in_lay hk))
  unfold u_lay at hlay
  rw [if_neg (by rw [hfin]; decide)] at hlay
  exact ⟨_, _, _, _, f, ⟨hown, hts _ hl, ⟨_, _, _, hsame _ hi⟩, (u_facts hfc hkC (u_lays hts hin hk) hi).1⟩, hsl, fun v hn hfit => u_store hfc hkC hkind hlay hi hd hn hfit, _, hc, hk, hap⟩
/-- a final field, in its class's constructor -/
def PutX (G : GG) (s : State) (m : MethodId) (args : Array Value) (meth : Method) (idx ci k : Nat) (ty : FieldType) : Prop := ∃ (own ref name desc : String) (cf i : Nat) (kc : Class) (f : Field), s.vm.findClass own = some m.cls ∧ (Cond.fieldLink own idx ref name desc).before args s = true ∧ s.fieldFound? ref name desc = some (cf, kc, i, f) ∧ f.isStatic = false ∧ m.cls = cf ∧ meth.name = "<init>" ∧ f.slot = (gD G).2 ci k ∧ (∀ v : Value, narrow ty v = v → fits ty v = true → narrow f.type v = v ∧ s.fitsSlot ((gD G).1 ci) .none f.slot v = true) ∧ ∃ q : vw_C, vwCl[ci]? = some q ∧ k < q.2.2 ∧ ∀ a b, a < q.2.2 → b < q.2.2 → a ≠ b → (gD G).2 ci a ≠ (gD G).2 ci b
theorem putX_of (C : Cx G p s m args meth c y cc nL ret ws) (ci k : Nat) {idx : Nat} {T : u_T} {N : Nat} {Cn ref : String} {ty : FieldType} (ty0 : Nat → FieldType) (hty : ∀ k, k < N → parseFieldDescriptor (T k).2.2.1 = some (ty0 k)) (hnm : ∀ a, a < N → ∀ b, b < N → a ≠ b → (T a).2.1 ≠ (T b).2.1) (hc : vwCl[ci]? = some (Cn, T, N)) (hk : k < N) (hin : ∀ w ∈ u_ws Cn T N, w ∈ ws) (hl : Cond.fieldLink y.cls idx ref (T k).2.1 (T k).2.2.1 ∈ ws) (hsame : ∀ x, s.fieldFound? (T k).1 (T k).2.1 (T k).2.2.1 = some x → s.fieldFound? ref (T k).2.1 (T k).2.2.1 = some x) (hfin : (T k).2.2.2 = true) (hin2 : y.name = "<init>") (hdecl : (T k).1 = y.cls) (hd : parseFieldDescriptor (T k).2.2.1 = some ty) : PutX G s m args meth idx ci k ty := by
  obtain ⟨hx, hb, hnl, hown, hts, -, -, hK, hnam⟩ := id C
  have hap := va_apart (own := y.cls) hts hin ty0 hty hnm hK.1 hc
  obtain ⟨hS, hfc, kC, hkC, hkind⟩ := hK.1.1 ci _ hc
  obtain ⟨cf, kf, fi, f, hi, hsl⟩ := hS k hk
  have hlay := hts _ (hin _ (u_in_lay hk))
  unfold u_lay at hlay
  rw [if_pos hfin] at hlay
  have hcf : m.cls = cf := by
    obtain ⟨_, _, c', _, _, _, -, -, hf', -, -, -, hown2, -⟩ := Cond.laysFinal_spec hlay
    have e1 : c' = cf := by have := hi.symm.trans hf'; simp at this; exact this.1.symm
    rw [hdecl] at hown2
    rw [← e1]; exact Option.some.inj (hown.symm.trans hown2)
  exact ⟨_, _, _, _, cf, fi, kf, f, hown, hts _ hl, hsame _ hi, (u_facts hfc hkC (u_lays hts hin hk) hi).1, hcf, hnam.trans hin2, hsl, fun v hn hfit => u_fits hfc hkC hkind (Or.inr hlay) hi hd hn hfit, _, hc, hk, hap⟩
theorem v_getf (C : Cx G p s m args meth c y cc nL ret ws) {idx ci i a t : Nat} {fs : List Value} {v : Value} (g : GetF G s m args idx ci i) (ha : w a = some (t, .inr (ci, fs))) (hv : fs[i]? = some v) (d : decode cc pc = .ok (.getfield idx, 3)) (kk : V G p l e R s m args below meth c Q w k z (pc + 3) ll (v :: st)) : V G p l e R s m args below meth c Q w k z pc ll (.ref a :: st) := by
  intro H locs ls hR hL hl
  obtain ⟨own, ref, name, desc, cf, kq, i2, kc, f, h1, h2, h3, h4, h5, h6, q, h7, h8⟩ := g
  subst h6
  obtain ⟨-, r, r1, cell, q1, q2, q3, q4⟩ := hR.2.2 _ _ _ ha
  have hr : r = q := Option.some.inj (r1.symm.trans h7)
  subst hr
  refine W.getf C.1 C.2.1 h1 h2 h3 h4 q1 (by rw [q3]; exact fun h => by cases h) (v := v) ?_ rfl rfl d (kk H locs ls hR hL hl)
  rw [h5, q4 _ h8]
  simp [vp_V, hv]
theorem v_putf (C : Cx G p s m args meth c y cc nL ret ws) {idx ci i a t : Nat} {fs : List Value} {v : Value} {ty : FieldType} (g : PutF G s m args idx ci i ty) (ha : w a = some (t, .inr (ci, fs))) (hn : narrow ty v = v) (hf : fits ty v = true) (hlen : i < fs.length) (d : decode cc pc = .ok (.putfield idx, 3)) (kk : V G p l e R s m args below meth c Q (updW w a (t, .inr (ci, fs.set i v))) k z (pc + 3) ll st) : V G p l e R s m args below meth c Q w k z pc ll (v :: .ref a :: st) := by
  intro H locs ls hR hL hl
  obtain ⟨own, ref, name, desc, f, h1, h2, h3, q, h4, h5, h6⟩ := g
  obtain ⟨hga, r, r1, cell, q1, q2, q3, q4⟩ := hR.2.2 _ _ _ ha
  have hr : r = q := Option.some.inj (r1.symm.trans h4)
  subst hr
  refine W.putK C.1 C.2.1 h1 (by rw [q2]; exact h3 v hn hf) q1 q3 (by rw [h2]; exact k2_hasslot (q4 i h5)) rfl rfl d fun H' e1 e2 e3 => ?_
  rw [h2] at e1 ⊢
  exact kk H' _ ls (hR.put ha e2 e3 ⟨_, h4, t_OB.to (V := updV (vp_V fs) i v) ⟨_, e1, q2, q3, t_set q4 h6 h5 v⟩ (fun j _ => vp_updV_set hlen v j)⟩) (fun z hz => by
    rcases List.mem_append.mp hz with h | h
    · exact hL z h
    · rw [List.mem_singleton.mp h]; exact hga) hl
theorem v_putX (C : Cx G p s m args meth c y cc nL ret ws) {idx ci i a t : Nat} {fs : List Value} {v : Value} {ty : FieldType} (g : PutX G s m args meth idx ci i ty) (ha : w a = some (t, .inr (ci, fs))) (hn : narrow ty v = v) (hf : fits ty v = true) (hlen : i < fs.length) (d : decode cc pc = .ok (.putfield idx, 3)) (kk : V G p l e R s m args below meth c Q (updW w a (t, .inr (ci, fs.set i v))) k z (pc + 3) ll st) : V G p l e R s m args below meth c Q w k z pc ll (v :: .ref a :: st) := by
  intro H locs ls hR hL hl
  obtain ⟨own, ref, name, desc, cf, i2, kc, f, h1, h2, h3, h4, h5, h6, h7, h8, q, h9, h10, h11⟩ := g
  obtain ⟨hga, r, r1, cell, q1, q2, q3, q4⟩ := hR.2.2 _ _ _ ha
  have hr : r = q := Option.some.inj (r1.symm.trans h9)
  subst hr
  refine W.putFinK C.1 C.2.1 h1 h2 h3 h4 h5 h6 (by rw [q2]; exact h8 v hn hf) q1 q3 (by rw [h7]; exact k2_hasslot (q4 i h10)) rfl rfl d fun H' e1 e2 e3 => ?_
  rw [h7] at e1 ⊢
  exact kk H' _ ls (hR.put ha e2 e3 ⟨_, h9, t_OB.to (V := updV (vp_V fs) i v) ⟨_, e1, q2, q3, t_set q4 h11 h10 v⟩ (fun j _ => vp_updV_set hlen v j)⟩) (fun z hz => by
    rcases List.mem_append.mp hz with h | h
    · exact hL z h
    · rw [List.mem_singleton.mp h]; exact hga) hl
theorem aI_clampN {i : Int} (hi : R32 i) (h0 : 0 ≤ i) : (((iI i).toNatClampNeg : Nat) : Int) = i := by rw [iI_clamp hi]; exact Int.toNat_of_nonneg h0
theorem locs_put {G : GG} {locs : List Loc} {a i : Nat} (hL : ∀ q ∈ locs, gN G ≤ q.base) (ha : gN G ≤ a) : ∀ q ∈ locs ++ [(⟨a, i⟩ : Loc)], gN G ≤ q.base := fun z hz => by
  rcases List.mem_append.mp hz with h | h
  · exact hL z h
  · rw [List.mem_singleton.mp h]; exact ha
theorem nat_lt_of_clamp {i n : Int} {j : Nat} (hi : R32 i) (h0 : 0 ≤ i) : j = (iI i).toNatClampNeg ↔ (j : Int) = i := by
  constructor
  · intro h; rw [h]; exact aI_clampN hi h0
  · intro h; have := aI_clampN hi h0; omega
theorem v_iald (C : Cx G p s m args meth c y cc nL ret ws) {a t : Nat} {n i : Int} {g : Int → Int} (ha : w a = some (t, .inl (gI G, aI n g))) (hi : R32 i) (h0 : 0 ≤ i) (hn : i < n) (d : decode cc pc = .ok (.iaload, 1)) (kk : V G p l e R s m args below meth c Q w k z (pc + 1) ll (.int (iI (g i)) :: st)) : V G p l e R s m args below meth c Q w k z pc ll (.int (iI i) :: .ref a :: st) := by
  intro H locs ls hR hL hl
  refine va_iald C.1 C.2.1 C.2.2.2.2.2.2.2.1.1 (hR.one ha) 0 1 rfl rfl (iI_in hi h0 hn) d ?_
  have h2 := kk H locs ls hR hL hl
  rw [← aI_clampN hi h0] at h2
  exact h2
theorem v_bald (C : Cx G p s m args meth c y cc nL ret ws) {a t : Nat} {n i : Int} {g : Int → Int} (ha : w a = some (t, .inl (gB G, aI n g))) (hi : R32 i) (h0 : 0 ≤ i) (hn : i < n) (d : decode cc pc = .ok (.baload, 1)) (kk : V G p l e R s m args below meth c Q w k z (pc + 1) ll (.int (iI (g i)) :: st)) : V G p l e R s m args below meth c Q w k z pc ll (.int (iI i) :: .ref a :: st) := by
  intro H locs ls hR hL hl
  refine va_bald C.1 C.2.1 C.2.2.2.2.2.2.2.1.1 (hR.one ha) 0 0 rfl rfl (iI_in hi h0 hn) d ?_
  have h2 := kk H locs ls hR hL hl
  rw [← aI_clampN hi h0] at h2
  exact h2
theorem v_lald (C : Cx G p s m args meth c y cc nL ret ws) {a t : Nat} {n i : Int} {g : Int → Int} (ha : w a = some (t, .inl (gJ G, aJ n g))) (hi : R32 i) (h0 : 0 ≤ i) (hn : i < n) (d : decode cc pc = .ok (.laload, 1)) (kk : V G p l e R s m args below meth c Q w k z (pc + 1) ll (.long (lI (g i)) :: st)) : V G p l e R s m args below meth c Q w k z pc ll (.int (iI i) :: .ref a :: st) := by
  intro H locs ls hR hL hl
  refine va_lald C.1 C.2.1 C.2.2.2.2.2.2.2.1.1 (hR.one ha) 0 2 rfl rfl (iI_in hi h0 hn) d ?_
  have h2 := kk H locs ls hR hL hl
  rw [← aI_clampN hi h0] at h2
  exact h2
theorem v_aald (C : Cx G p s m args meth c y cc nL ret ws) {a t : Nat} {n i : Int} {g : Int → Option Nat} (ha : w a = some (t, .inl (gO G, aQ n g))) (hi : R32 i) (h0 : 0 ≤ i) (hn : i < n) (d : decode cc pc = .ok (.aaload, 1)) (kk : V G p l e R s m args below meth c Q w k z (pc + 1) ll (va_rf (g i) :: st)) : V G p l e R s m args below meth c Q w k z pc ll (.int (iI i) :: .ref a :: st) := by
  intro H locs ls hR hL hl
  refine va_aldq C.1 C.2.1 C.2.2.2.2.2.2.2.1.1 (hR.one ha) 0 3 (C := "java/lang/Object") rfl rfl (iI_in hi h0 hn) d ?_
  have h2 := kk H locs ls hR hL hl
  rw [← aI_clampN hi h0] at h2
  exact h2
theorem v_iast (C : Cx G p s m args meth c y cc nL ret ws) {a t : Nat} {n i x : Int} {g : Int → Int} (ha : w a = some (t, .inl (gI G, aI n g))) (hi : R32 i) (h0 : 0 ≤ i) (hn : i < n) (d : decode cc pc = .ok (.iastore, 1)) (kk : V G p l e R s m args below meth c Q (updW w a (t, .inl (gI G, aI n (upI g i x)))) k z (pc + 1) ll st) : V G p l e R s m args below meth c Q w k z pc ll (.int (iI x) :: .int (iI i) :: .ref a :: st) := by
  intro H locs ls hR hL hl
  have hc := (hR.2.2 _ _ _ ha).2
  refine W.iast C.1 C.2.1 hc ((C.2.2.2.2.2.2.2.1.1.2 1 _ rfl).1 n.toNat (fun j => .int (iI (g j)))) (fun q => by cases q) (by show ¬ (iI i < 0 ∨ (arrV _ _ _).slots.size ≤ _); rw [arrV_size]; exact iI_in hi h0 hn) rfl rfl d fun H1 e z oq => ?_
  refine kk H1 _ ls (hR.put ha z oq ?_) (locs_put hL (hR.2.2 _ _ _ ha).1) hl
  show H1[a]? = some (vp_cell _ _)
  rw [e, aI, aI, vp_cell_i, vp_cell_i, arrV_store]
  congr 2
  funext q
  by_cases hq : q = (iI i).toNatClampNeg
  · have h2 := (nat_lt_of_clamp (n := n) hi h0).mp hq
    refine (if_pos hq).trans ?_
    exact congrArg _ (congrArg _ (Eq.symm (if_pos h2)))
  · have h2 := mt (nat_lt_of_clamp (n := n) hi h0).mpr hq
    refine (if_neg hq).trans ?_
    exact congrArg _ (congrArg _ (Eq.symm (if_neg h2)))
theorem v_last (C : Cx G p s m args meth c y cc nL ret ws) {a t : Nat} {n i x : Int} {g : Int → Int} (ha : w a = some (t, .inl (gJ G, aJ n g))) (hi : R32 i) (h0 : 0 ≤ i) (hn : i < n) (d : decode cc pc = .ok (.lastore, 1)) (kk : V G p l e R s m args below meth c Q (updW w a (t, .inl (gJ G, aJ n (upI g i x)))) k z (pc + 1) ll st) : V G p l e R s m args below meth c Q w k z pc ll (.long (lI x) :: .int (iI i) :: .ref a :: st) := by
  intro H locs ls hR hL hl
  have hc := (hR.2.2 _ _ _ ha).2
  refine W.last C.1 C.2.1 hc ((C.2.2.2.2.2.2.2.1.1.2 2 _ rfl).1 n.toNat (fun j => .long (lI (g j)))) (fun q => by cases q) (by show ¬ (iI i < 0 ∨ (arrV _ _ _).slots.size ≤ _); rw [arrV_size]; exact iI_in hi h0 hn) rfl rfl d fun H1 e z oq => ?_
  refine kk H1 _ ls (hR.put ha z oq ?_) (locs_put hL (hR.2.2 _ _ _ ha).1) hl
  show H1[a]? = some (vp_cell _ _)
  rw [e, aJ, aJ, vp_cell_l, vp_cell_l, arrV_store]
  congr 2
  funext q
  by_cases hq : q = (iI i).toNatClampNeg
  · have h2 := (nat_lt_of_clamp (n := n) hi h0).mp hq
    refine (if_pos hq).trans ?_
    exact congrArg _ (congrArg _ (Eq.symm (if_pos h2)))
  · have h2 := mt (nat_lt_of_clamp (n := n) hi h0).mpr hq
    refine (if_neg hq).trans ?_
    exact congrArg _ (congrArg _ (Eq.symm (if_neg h2)))
theorem v_bast (C : Cx G p s m args meth c y cc nL ret ws) {a t : Nat} {n i x r : Int} {g : Int → Int} (ha : w a = some (t, .inl (gB G, aI n g))) (hi : R32 i) (h0 : 0 ≤ i) (hn : i < n) (hr : (iI x).toInt8.toInt32 = iI r) (d : decode cc pc = .ok (.bastore, 1)) (kk : V G p l e R s m args below meth c Q (updW w a (t, .inl (gB G, aI n (upI g i r)))) k z (pc + 1) ll st) : V G p l e R s m args below meth c Q w k z pc ll (.int (iI x) :: .int (iI i) :: .ref a :: st) := by
  intro H locs ls hR hL hl
  have hc := (hR.2.2 _ _ _ ha).2
  refine W.bast C.1 C.2.1 hc ((C.2.2.2.2.2.2.2.1.1.2 0 _ rfl).1 n.toNat (fun j => .int (iI (g j)))) (fun q => by cases q) (by show ¬ (iI i < 0 ∨ (arrV _ _ _).slots.size ≤ _); rw [arrV_size]; exact iI_in hi h0 hn) rfl rfl d fun H1 e z oq => ?_
  refine kk H1 _ ls (hR.put ha z oq ?_) (locs_put hL (hR.2.2 _ _ _ ha).1) hl
  show H1[a]? = some (vp_cell _ _)
  rw [show narrow .byte (.int (iI x)) = .int ((iI x).toInt8.toInt32) from rfl, hr] at e
  rw [e, aI, aI, vp_cell_i, vp_cell_i, arrV_store]
  congr 2
  funext q
  by_cases hq : q = (iI i).toNatClampNeg
  · have h2 := (nat_lt_of_clamp (n := n) hi h0).mp hq
    refine (if_pos hq).trans ?_
    exact congrArg _ (congrArg _ (Eq.symm (if_pos h2)))
  · have h2 := mt (nat_lt_of_clamp (n := n) hi h0).mpr hq
    refine (if_neg hq).trans ?_
    exact congrArg _ (congrArg _ (Eq.symm (if_neg h2)))
theorem v_aast (C : Cx G p s m args meth c y cc nL ret ws) {a t v tv ci : Nat} {n i : Int} {vs : List Value} {q : vw_C} {g : Int → Option Nat} (ha : w a = some (t, .inl (gO G, aQ n g))) (hv : w v = some (tv, .inr (ci, vs))) (hq : vwCl[ci]? = some q) (hca : (q.1, "java/lang/Object") ∈ kkC) (hi : R32 i) (h0 : 0 ≤ i) (hn : i < n) (d : decode cc pc = .ok (.aastore, 1)) (kk : V G p l e R s m args below meth c Q (updW w a (t, .inl (gO G, aQ n (upQ g i (some v))))) k z (pc + 1) ll st) : V G p l e R s m args below meth c Q w k z pc ll (.ref v :: .int (iI i) :: .ref a :: st) := by
  intro H locs ls hR hL hl
  have hK := C.2.2.2.2.2.2.2.1
  have hc := (hR.2.2 _ _ _ ha).2
  obtain ⟨-, r', hr', cellV, g1, g2, g3, -⟩ := hR.2.2 _ _ _ hv
  have hcls := (hK.1.1 ci q hq).2
  obtain ⟨kA, comp, k1, k2, k3, -⟩ := (hK.1.2 3 _ rfl).2
  obtain ⟨kE, hkE, -⟩ := Vm.findClass_spec k3
  obtain ⟨c0, t1, f1, f2, f3⟩ := Cond.castable_spec (va_Nw.use (A := args) rfl (hK.2.1.2.2.2.2.1 _ hca))
  cases hcls.1.symm.trans f1
  cases k3.symm.trans f2
  obtain ⟨kC, hkC, -⟩ := hcls.2
  have hin := iI_in hi h0 hn
  refine W.aast C.1 C.2.1 hc (fun q h => by cases h) (fun h => by cases h) k1 k2 rfl hkE ⟨fun q => hin (Or.inl q), by show _ < (arrV _ _ _).slots.size; rw [arrV_size]; exact Nat.not_le.mp fun q => hin (Or.inr q)⟩ g1 (fun q h => by rw [g3] at h; cases h) (by rw [g2]; exact hkC) (by rw [g2]; exact f3) rfl rfl d fun H1 e z oq => ?_
  refine kk H1 _ ls (hR.put ha z oq ?_) (locs_put hL (hR.2.2 _ _ _ ha).1) hl
  show H1[a]? = some (vp_cell _ _)
  rw [e, aQ, aQ, vp_cell_q, vp_cell_q, arrV_store]
  congr 2
  funext q
  by_cases hq : q = (iI i).toNatClampNeg
  · have h2 := (nat_lt_of_clamp (n := n) hi h0).mp hq
    refine (if_pos hq).trans ?_
    exact congrArg va_rf (Eq.symm (if_pos h2) : some v = upQ g i (some v) q)
  · have h2 := mt (nat_lt_of_clamp (n := n) hi h0).mpr hq
    refine (if_neg hq).trans ?_
    refine congrArg _ (Eq.symm (if_neg h2))
theorem v_aastN (C : Cx G p s m args meth c y cc nL ret ws) {a t : Nat} {n i : Int} {g : Int → Option Nat} (ha : w a = some (t, .inl (gO G, aQ n g))) (hi : R32 i) (h0 : 0 ≤ i) (hn : i < n) (d : decode cc pc = .ok (.aastore, 1)) (kk : V G p l e R s m args below meth c Q (updW w a (t, .inl (gO G, aQ n (upQ g i none)))) k z (pc + 1) ll st) : V G p l e R s m args below meth c Q w k z pc ll (.null :: .int (iI i) :: .ref a :: st) := by
  intro H locs ls hR hL hl
  have hK := C.2.2.2.2.2.2.2.1
  have hin := iI_in hi h0 hn
  refine va_WaastN (C := "java/lang/Object") C.1 C.2.1 (hR.2.2 _ _ _ ha).2 ((hK.1.2 3 _ rfl).1 n.toNat (fun j => va_rf (g j))) (fun h => by cases h) (by show ¬ (iI i < 0 ∨ (arrV _ _ _).slots.size ≤ _); rw [arrV_size]; exact hin) rfl rfl d fun H1 e z oq => ?_
  refine kk H1 _ ls (hR.put ha z oq ?_) (locs_put hL (hR.2.2 _ _ _ ha).1) hl
  show H1[a]? = some (vp_cell _ _)
  rw [e, aQ, aQ, vp_cell_q, vp_cell_q, arrV_store]
  congr 2
  funext q
  by_cases hq : q = (iI i).toNatClampNeg
  · have h2 := (nat_lt_of_clamp (n := n) hi h0).mp hq
    refine (if_pos hq).trans ?_
    exact congrArg va_rf (Eq.symm (if_pos h2) : none = upQ g i none q)
  · have h2 := mt (nat_lt_of_clamp (n := n) hi h0).mpr hq
    refine (if_neg hq).trans ?_
    refine congrArg _ (Eq.symm (if_neg h2))
theorem v_alen (C : Cx G p s m args meth c y cc nL ret ws) {a t : Nat} {n : Int} {cA : ClassId} {x : vp_A} {i : Nat} {ty : FieldType} (ha : w a = some (t, .inl (cA, x))) (ht : (gT G)[i]? = some (cA, ty)) (hx : (x.1 : Int) = n) (d : decode cc pc = .ok (.arraylength, 1)) (kk : V G p l e R s m args below meth c Q w k z (pc + 1) ll (.int (iI n) :: st)) : V G p l e R s m args below meth c Q w k z pc ll (.ref a :: st) := by
  intro H locs ls hR hL hl
  refine va_alen C.1 C.2.1 C.2.2.2.2.2.2.2.1.1 (hR.one ha) 0 i rfl ht (v := iI n) ?_ d (kk H locs ls hR hL hl)
  rw [← hx]
  exact (Int32.ofInt_eq_ofNat).symm
theorem v_new (C : Cx G p s m args meth c y cc nL ret ws) {idx ci : Nat} {T : u_T} {N : Nat} {Cn : String} {fs : List Value} (t : Nat) (ty0 : Nat → FieldType) (hty : ∀ k, k < N → parseFieldDescriptor (T k).2.2.1 = some (ty0 k)) (hc : vwCl[ci]? = some (Cn, T, N)) (hin : ∀ w ∈ u_ws Cn T N, w ∈ ws) (h1 : Cond.classLink y.cls idx Cn ∈ ws) (h2 : Cond.instantiable Cn N ∈ ws) (h3 : Cond.initialized Cn ∈ ws) (hfs : ∀ j, j < N → defaultValue (ty0 j) = vp_V fs j) (hcells : k + 1 ≤ R.cells) (hslots : z + N ≤ R.slots) (d : decode cc pc = .ok (.new idx, 3))
    (kk : ∀ a : Nat, w a = none → V G p l e R s m args below meth c Q (updW w a (t, .inr (ci, fs))) (k + 1) (z + N) (pc + 3) ll (.ref a :: st)) : V G p l e R s m args below meth c Q w k z pc ll st := by
  intro H locs ls hR hL hl
  obtain ⟨hx, hb, hnl, hown, hts, -, -, hK, -⟩ := id C
  have hKn := hK.1.1 ci _ hc
  refine W.newcK hx hb hown (hts _ h1) (hts _ h2) (hts _ h3) rfl d hcells hslots hKn.2.1 rfl fun H1 kC hkC e1 z1 o1 => ?_
  exact kk H.size hR.fresh H1 locs ls (hR.new (by omega) o1 ⟨_, hc, (u_born ty0 hts hin hKn hkC e1 hty).to hfs⟩) hL hl
theorem v_newI (C : Cx G p s m args meth c y cc nL ret ws) {n : Int} (t : Nat) (harr : Cond.arrayClass .int ∈ ws) (h0 : 0 ≤ n) (hn : n ≤ 60000000) (hcells : k + 1 ≤ R.cells) (hslots : z + n.toNat ≤ R.slots) (d : decode cc pc = .ok (.newarray .int, 2))
    (kk : ∀ a : Nat, w a = none → V G p l e R s m args below meth c Q (updW w a (t, .inl (gI G, aI n (fun _ => 0)))) (k + 1) (z + n.toNat) (pc + 2) ll (.ref a :: st)) : V G p l e R s m args below meth c Q w k z pc ll (.int (iI n) :: st) := by
  intro H locs ls hR hL hl
  obtain ⟨hx, hb, hnl, hown, hts, -, -, hK, -⟩ := id C
  have hr : R32 n := ⟨by omega, by omega⟩
  refine va_newaK (atype := .int) hx hb (hts _ harr) rfl d rfl (fun q => by have := (iI_lt (b := 0) hr ⟨by omega, by omega⟩).mp q; omega) (iI_clamp hr) (by show n.toNat * 4 ≤ 536870912; omega) hcells hslots rfl fun H1 cA e1 z1 o1 hAr hNm => ?_
  have hcA : cA = gI G := by
    have h9 := (hK.1.2 1 _ rfl).2
    exact Option.some.inj (hNm.symm.trans h9)
  subst hcA
  exact kk H.size hR.fresh H1 locs ls (hR.new (by omega) o1 (by show H1[H.size]? = some (vp_cell _ _); rw [e1]; rfl)) hL hl
theorem v_newB (C : Cx G p s m args meth c y cc nL ret ws) {n : Int} (t : Nat) (harr : Cond.arrayClass .byte ∈ ws) (h0 : 0 ≤ n) (hn : n ≤ 60000000) (hcells : k + 1 ≤ R.cells) (hslots : z + n.toNat ≤ R.slots) (d : decode cc pc = .ok (.newarray .byte, 2))
    (kk : ∀ a : Nat, w a = none → V G p l e R s m args below meth c Q (updW w a (t, .inl (gB G, aI n (fun _ => 0)))) (k + 1) (z + n.toNat) (pc + 2) ll (.ref a :: st)) : V G p l e R s m args below meth c Q w k z pc ll (.int (iI n) :: st) := by
  intro H locs ls hR hL hl
  obtain ⟨hx, hb, hnl, hown, hts, -, -, hK, -⟩ := id C
  have hr : R32 n := ⟨by omega, by omega⟩
  refine va_newaK (atype := .byte) hx hb (hts _ harr) rfl d rfl (fun q => by have := (iI_lt (b := 0) hr ⟨by omega, by omega⟩).mp q; omega) (iI_clamp hr) (by show n.toNat * 1 ≤ 536870912; omega) hcells hslots rfl fun H1 cA e1 z1 o1 hAr hNm => ?_
  have hcA : cA = gB G := by
    have h9 := (hK.1.2 0 _ rfl).2
    exact Option.some.inj (hNm.symm.trans h9)
  subst hcA
  exact kk H.size hR.fresh H1 locs ls (hR.new (by omega) o1 (by show H1[H.size]? = some (vp_cell _ _); rw [e1]; rfl)) hL hl
theorem v_newJ (C : Cx G p s m args meth c y cc nL ret ws) {n : Int} (t : Nat) (harr : Cond.arrayClass .long ∈ ws) (h0 : 0 ≤ n) (hn : n ≤ 60000000) (hcells : k + 1 ≤ R.cells) (hslots : z + n.toNat ≤ R.slots) (d : decode cc pc = .ok (.newarray .long, 2))
    (kk : ∀ a : Nat, w a = none → V G p l e R s m args below meth c Q (updW w a (t, .inl (gJ G, aJ n (fun _ => 0)))) (k + 1) (z + n.toNat) (pc + 2) ll (.ref a :: st)) : V G p l e R s m args below meth c Q w k z pc ll (.int (iI n) :: st) := by
  intro H locs ls hR hL hl
  obtain ⟨hx, hb, hnl, hown, hts, -, -, hK, -⟩ := id C
  have hr : R32 n := ⟨by omega, by omega⟩
  refine va_newaK (atype := .long) hx hb (hts _ harr) rfl d rfl (fun q => by have := (iI_lt (b := 0) hr ⟨by omega, by omega⟩).mp q; omega) (iI_clamp hr) (by show n.toNat * 8 ≤ 536870912; omega) hcells hslots rfl fun H1 cA e1 z1 o1 hAr hNm => ?_
  have hcA : cA = gJ G := by
    have h9 := (hK.1.2 2 _ rfl).2
    exact Option.some.inj (hNm.symm.trans h9)
  subst hcA
  exact kk H.size hR.fresh H1 locs ls (hR.new (by omega) o1 (by show H1[H.size]? = some (vp_cell _ _); rw [e1]; rfl)) hL hl
theorem v_objInit (C : Cx G p s m args meth c y cc nL ret ws) {a idx : Nat} (h1 : Cond.methodLink y.cls idx objectInit ∈ ws) (h2 : Cond.instanceMethod objectInit ∈ ws) (h3 : Cond.code objectInit ⟨#[0xb1]⟩ 1 none ∈ ws) (hf : 1 ≤ R.frames) (hlo : (st.map fun v => v.category).sum + 12 ≤ R.locals) (d : decode cc pc = .ok (.invokespecial idx, 3)) (kk : V G p l e R s m args below meth c Q w k z (pc + 3) ll st) : V G p l e R s m args below meth c Q w k z pc ll (.ref a :: st) := by
  intro H locs ls hR hL hl
  obtain ⟨hx, hb, hnl, hown, hts, -⟩ := id C
  exact W.objInit hx hb hown (hts _ h1) (hts _ h2) (hts _ h3) rfl hl.1 rfl d hf (by show 2 * 0 + _ + 12 ≤ _; omega) (kk H locs ls hR hL hl)
theorem v_gets (C : Cx G p s m args meth c y cc nL ret ws) {idx : Nat} (h1 : Cond.fieldLink y.cls idx "java/util/ArrayList" "DEFAULTCAPACITY_EMPTY_ELEMENTDATA" "[Ljava/lang/Object;" ∈ ws) (d : decode cc pc = .ok (.getstatic idx, 3)) (kk : V G p l e R s m args below meth c Q w k z (pc + 3) ll (.ref (gE G) :: st)) : V G p l e R s m args below meth c Q w k z pc ll st := by
  intro H locs ls hR hL hl
  obtain ⟨hx, hb, hnl, hown, hts, -, -, hK, -⟩ := id C
  obtain ⟨cf, kf, fi, f, a, cell, g1, g2, g3, g4, g5, g6, g7, g8⟩ := hK.2.1.2.1.1
  exact W.gets hx hb hown (hts _ h1) g1 g2 g3 g4 (by rw [hR.2.1 a (Nat.lt_of_not_le g8)]; exact g5) (fun e => by rw [e] at g6; cases g6) g7 rfl d (kk H locs ls hR hL hl)
theorem v_alenE (C : Cx G p s m args meth c y cc nL ret ws) (d : decode cc pc = .ok (.arraylength, 1)) (kk : V G p l e R s m args below meth c Q w k z (pc + 1) ll (.int (iI 0) :: st)) : V G p l e R s m args below meth c Q w k z pc ll (.ref (gE G) :: st) := by
  intro H locs ls hR hL hl
  have hK := C.2.2.2.2.2.2.2.1
  obtain ⟨cE, g1, g2, g3⟩ := hK.2.1.2.1.2.2
  exact W.alen (n := iI 0) C.1 C.2.1 (by rw [hR.2.1 _ hK.2.1.2.1.2.1]; exact g1) g2 g3 rfl rfl d (kk H locs ls hR hL hl)
theorem v_castY (C : Cx G p s m args meth c y cc nL ret ws) {a t ci idx : Nat} {vs : List Value} {q : vw_C} {nm : String} (ha : w a = some (t, .inr (ci, vs))) (hq : vwCl[ci]? = some q) (h1 : Cond.classLink y.cls idx nm ∈ ws) (hnm : nm = q.1) (d : decode cc pc = .ok (.checkcast idx, 3)) (kk : V G p l e R s m args below meth c Q w k z (pc + 3) ll (.ref a :: st)) : V G p l e R s m args below meth c Q w k z pc ll (.ref a :: st) := by
  intro H locs ls hR hL hl
  obtain ⟨hx, hb, hnl, hown, hts, -, -, hK, -⟩ := id C
  subst hnm
  refine va_castS hx hb hown (hts _ h1) (hK.1.1 ci q hq).2 ?_ d (kk H locs ls hR hL hl)
  obtain ⟨-, r', hr', cellV, g1, g2, g3, -⟩ := hR.2.2 _ _ _ ha
  exact ⟨cellV, g1, by rw [g3]; rfl, by rw [g2]; exact (hK.1.1 ci q hq).2.1⟩
/-- what a method's end owes, by the world -/
def vQ (G : GG) (post : Option Value → Wd → Prop) : Array Value → State → Outcome → State → Prop := fun _ _ oc t => ∃ (v : Option Value) (w' : Wd), oc = .returned v ∧ post v w' ∧ Rep G w' t.heap ∧ KK G t
def pI (post : Int → Wd → Prop) : Option Value → Wd → Prop := fun v w' => ∃ x : Int, v = some (.int (iI x)) ∧ post x w'
def pL (post : Int → Wd → Prop) : Option Value → Wd → Prop := fun v w' => ∃ x : Int, v = some (.long (lI x)) ∧ post x w'
def pV (post : Wd → Prop) : Option Value → Wd → Prop := fun v w' => v = none ∧ post w'
def pR (post : Option Nat → Wd → Prop) : Option Value → Wd → Prop := fun v w' => ∃ r : Option Nat, v = some (va_rf r) ∧ post r w'
def PcW (G : GG) (av : List Value) (w : Wd) : Array Value → State → Prop := va_Pc av (fun U => Rep G w U.heap ∧ KK G U)
/-- a method's contract over the whole world -/
def MG (G : GG) (l : Launch) (y : MethodName) (ws : List Cond) (F L mc ms : Nat) (av : List Value) (w : Wd) (post : Option Value → Wd → Prop) : Prop :=
  Met l y ws { frames := F, cells := mc, slots := ms, locals := L } (PcW G av w) (vQ G post) mc ms (gF G)
theorem PcW.blind {av : List Value} : FrameBlind (PcW G av w) := fun a U g mk q => by
  obtain ⟨q1, q2, q3⟩ := q
  exact ⟨q1, q2, KK.same (u := U) (U := U.calling g mk a) rfl q3⟩
abbrev MQW (G : GG) (below : List Frame) (args : Array Value) (s : State) (mc ms : Nat) (post : Option Value → Wd → Prop) : State → Prop := MQ below (vQ G post) args s mc ms (gF G)
theorem v_iret (C : Cx G p s m args meth c y cc nL ret ws) {mc ms : Nat} {post : Int → Wd → Prop} {x : Int} (hr : ret = some .int) (d : decode cc pc = .ok (.ireturn, 1)) (hk : k ≤ mc) (hz : z ≤ ms) (hp : post x w) : V G p l e R s m args below meth c (MQW G below args s mc ms (pI post)) w k z pc ll [.int (iI x)] := by
  intro H locs ls hR hL hl
  refine W.widen hk hz ?_
  exact W.iret C.1 C.2.1 (C.2.2.2.2.2.1.trans hr) (fun t ht hW => ⟨_, w, rfl, ⟨x, rfl, hp⟩, by rw [ht]; exact hR, KK.warm hW C.2.2.2.2.2.2.2.1⟩) hL d C.2.2.2.2.2.2.1
theorem v_zret (C : Cx G p s m args meth c y cc nL ret ws) {mc ms : Nat} {post : Int → Wd → Prop} {x : Int} (hr : ret = some .boolean) (hb : x = 0 ∨ x = 1) (d : decode cc pc = .ok (.ireturn, 1)) (hk : k ≤ mc) (hz : z ≤ ms) (hp : post x w) : V G p l e R s m args below meth c (MQW G below args s mc ms (pI post)) w k z pc ll [.int (iI x)] := by
  intro H locs ls hR hL hl
  refine W.widen hk hz ?_
  exact W.zret C.1 C.2.1 (C.2.2.2.2.2.1.trans hr) (by rcases hb with rfl | rfl <;> rfl) (fun t ht hW => ⟨_, w, rfl, ⟨x, rfl, hp⟩, by rw [ht]; exact hR, KK.warm hW C.2.2.2.2.2.2.2.1⟩) hL d C.2.2.2.2.2.2.1
theorem v_lret (C : Cx G p s m args meth c y cc nL ret ws) {mc ms : Nat} {post : Int → Wd → Prop} {x : Int} (hr : ret = some .long) (d : decode cc pc = .ok (.lreturn, 1)) (hk : k ≤ mc) (hz : z ≤ ms) (hp : post x w) : V G p l e R s m args below meth c (MQW G below args s mc ms (pL post)) w k z pc ll [.long (lI x)] := by
  intro H locs ls hR hL hl
  refine W.widen hk hz ?_
  exact W.lret C.1 C.2.1 (C.2.2.2.2.2.1.trans hr) (fun t ht hW => ⟨_, w, rfl, ⟨x, rfl, hp⟩, by rw [ht]; exact hR, KK.warm hW C.2.2.2.2.2.2.2.1⟩) hL d C.2.2.2.2.2.2.1
theorem v_vret (C : Cx G p s m args meth c y cc nL ret ws) {mc ms : Nat} {post : Wd → Prop}  (hr : ret = none) (d : decode cc pc = .ok (.return_, 1)) (hk : k ≤ mc) (hz : z ≤ ms) (hp : post w) : V G p l e R s m args below meth c (MQW G below args s mc ms (pV post)) w k z pc ll [] := by
  intro H locs ls hR hL hl
  refine W.widen hk hz ?_
  exact W.vret C.1 C.2.1 (C.2.2.2.2.2.1.trans hr) (fun t ht hW => ⟨_, w, rfl, ⟨rfl, hp⟩, by rw [ht]; exact hR, KK.warm hW C.2.2.2.2.2.2.2.1⟩) hL d C.2.2.2.2.2.2.1
theorem v_aret (C : Cx G p s m args meth c y cc nL ret ws) {mc ms : Nat} {post : Option Nat → Wd → Prop} {x : Nat} {rt : FieldType} (hr : ret = some rt) (hrt : (∃ n, rt = .object n) ∨ ∃ t, rt = .array t) (d : decode cc pc = .ok (.areturn, 1)) (hk : k ≤ mc) (hz : z ≤ ms) (hp : post (some x) w) : V G p l e R s m args below meth c (MQW G below args s mc ms (pR post)) w k z pc ll [.ref x] := by
  intro H locs ls hR hL hl
  refine W.widen hk hz ?_
  exact W.aret C.1 C.2.1 (C.2.2.2.2.2.1.trans hr) hrt (Or.inr ⟨x, rfl⟩) (fun t ht hW => ⟨_, w, rfl, ⟨some x, rfl, hp⟩, by rw [ht]; exact hR, KK.warm hW C.2.2.2.2.2.2.2.1⟩) hL d C.2.2.2.2.2.2.1
theorem v_aretN (C : Cx G p s m args meth c y cc nL ret ws) {mc ms : Nat} {post : Option Nat → Wd → Prop}  {rt : FieldType} (hr : ret = some rt) (hrt : (∃ n, rt = .object n) ∨ ∃ t, rt = .array t) (d : decode cc pc = .ok (.areturn, 1)) (hk : k ≤ mc) (hz : z ≤ ms) (hp : post none w) : V G p l e R s m args below meth c (MQW G below args s mc ms (pR post)) w k z pc ll [.null] := by
  intro H locs ls hR hL hl
  refine W.widen hk hz ?_
  exact W.aret C.1 C.2.1 (C.2.2.2.2.2.1.trans hr) hrt (Or.inl rfl) (fun t ht hW => ⟨_, w, rfl, ⟨none, rfl, hp⟩, by rw [ht]; exact hR, KK.warm hW C.2.2.2.2.2.2.2.1⟩) hL d C.2.2.2.2.2.2.1
/-- the locals with which a method begins -/
def llOf : List Value → Nat → List (Option Value)
  | [], n => List.replicate n none
  | v :: vs, n => if v.category = 2 then some v :: none :: llOf vs (n - 2) else some v :: llOf vs (n - 1)
theorem llOf_spec : ∀ (vs : List Value) (n i b : Nat) (v : Value), (llOf vs n)[i]? = some (some v) → (b + i, v) ∈ lv_args b vs
  | [], n, i, b, v, h => by
    simp [llOf, List.getElem?_replicate] at h
  | u :: vs, n, i, b, v, h => by
    unfold llOf at h
    unfold lv_args
    by_cases hc : u.category = 2
    · rw [if_pos hc] at h
      rw [if_pos hc]
      match i, h with
      | 0, h => simp at h; subst h; exact List.mem_cons_self
      | 1, h => simp at h
      | i + 2, h =>
        have := llOf_spec vs (n - 2) i (b + 2) v (by simpa using h)
        rw [show b + (i + 2) = b + 2 + i by omega]
        exact List.mem_cons_of_mem _ this
    · rw [if_neg hc] at h
      rw [if_neg hc]
      match i, h with
      | 0, h => simp at h; subst h; exact List.mem_cons_self
      | i + 1, h =>
        have := llOf_spec vs (n - 1) i (b + 1) v (by simpa using h)
        rw [show b + (i + 1) = b + 1 + i by omega]
        exact List.mem_cons_of_mem _ this
theorem MG.of {ws' : List Cond} {F L mc ms : Nat} {av : List Value} {post : Option Value → Wd → Prop} (hy : plainName y.cls = true) (hw : ws = Cond.code y cc nL ret :: ws') (hlen : (lg_sl av).length ≤ nL) (hll : llOf av nL = ll)
    (body : ∀ (p : Program) (e : Env) (s : State) (m : MethodId) (args : Array Value) (below : List Frame) (meth : Method) (c : Code), Cx G p s m args meth c y cc nL ret ws → V G p l e { frames := F, cells := mc, slots := ms, locals := L } s m args below meth c (MQW G below args s mc ms post) w 0 0 0 ll []) : MG G l y ws F L mc ms av w post := by
  refine Met.ofW (cc := cc) (maxL := nL) (ret := ret) hy hw ?_
  intro p e s m args below meth c s₁ B hml hv
  obtain ⟨rfl, hR, hK⟩ := hv
  have hl := lv_entry av (n := nL) hlen
  rw [lg_entry_eq]
  refine body p e s m _ below meth c ⟨B.exec, B.bytes, hml, findClass_of_methodNamed B.named, atoms_spec (ws := ws) B.pre, B.returns, B.notSynchronized, hK, (name_of_methodNamed B.named B.method).1⟩ s.heap [] _ hR (fun q h => nomatch h) ⟨by rw [hml]; exact hl.1, hl.2.1, fun i v hi => ?_⟩
  rw [← hll] at hi
  have := llOf_spec av nL i 0 v hi
  rw [Nat.zero_add] at this
  exact hl.2.2 (i, v) this
theorem v_call {mc ms : Nat} {rest st0 : List Value} {a : Array Value} {post : Option Value → Wd → Prop} (hr : ∀ (H : Heap) (locs : List Loc) (ls : Array Slot), Rep G w H → ls.size = c.maxLocals → va_Run p l e R s m args below meth c H locs k z mc ms (F0 m pc ls st0) rest (vQ G post a) (gF G))
    (kk : ∀ (v : Option Value) (w' : Wd), post v w' → V G p l e R s m args below meth c Q w' (k + mc) (z + ms) (pc + 3) ll (v.toList ++ rest)) : V G p l e R s m args below meth c Q w k z pc ll st0 := by
  intro H locs ls hR hL hl T hT X
  obtain ⟨v, st₀, t, T', L, h0, X', hL2, e1, e2, ⟨v', w', hv, hp, hR2, hK2⟩, st⟩ := hr H locs ls hR hl.1 T hT X
  cases hv
  obtain ⟨t2, a1, b1⟩ := kk v w' hp T'.heap (locs ++ L) ls (by rw [e1]; exact hR2) (fun q hq => by
    rcases List.mem_append.mp hq with h | h
    · exact hL q h
    · exact hL2 q h) hl T' rfl X'
  exact ⟨t2, st t2 a1, b1⟩
theorem v_callVi (C : Cx G p s m args meth c y cc nL ret ws) {y2 : MethodName} {bytes : ByteArray} {maxL mc ms n index F L : Nat} {ret2 : Option FieldType} {ws2 : List Cond} {b t ci : Nat} {fs : List Value} {q : vw_C} {As rest : List Value} {post : Int → Wd → Prop} (hM : MG G l y2 ws2 F L mc ms (.ref b :: As) w (pI post)) (cw : CallW R s args y.cls q.1 index y2 bytes maxL ret2 ws2 { frames := F, cells := mc, slots := ms, locals := L } mc ms n) (hb : w b = some (t, .inr (ci, fs))) (hq : vwCl[ci]? = some q) (hn : As.length = n) (hst : st = As.reverse ++ .ref b :: rest) (hW : (rest.map fun v => v.category).sum ≤ 8) (d : decode cc pc = .ok (.invokevirtual index, 3)) (hk : k + mc ≤ R.cells) (hz : z + ms ≤ R.slots)
    (kk : ∀ (x : Int) (w' : Wd), post x w' → V G p l e R s m args below meth c Q w' (k + mc) (z + ms) (pc + 3) ll (.int (iI x) :: rest)) : V G p l e R s m args below meth c Q w k z pc ll st := by
  obtain ⟨hx, hb2, hnl, hown, hts, -, -, hK, -⟩ := id C
  refine v_call (rest := rest) (fun H locs ls hR hs => va_runV (As := As) (rest := rest) ⟨hx, hb2, hnl, hown, hts⟩ hM cw ⟨PcW.blind, ?_, fun U hU hWa => ⟨rfl, by rw [hU]; exact hR, KK.warm hWa hK⟩⟩ rfl hn (hs.trans hnl) hst (by show 2 * 0 + _ ≤ 8; omega) d ⟨hk, hz⟩) (fun v w' hp => by obtain ⟨x, rfl, hp⟩ := hp; exact kk x w' hp)
  obtain ⟨-, r', hr', cellV, g1, g2, g3, -⟩ := hR.2.2 _ _ _ hb
  exact ⟨cellV, g1, by rw [g3]; rfl, by rw [g2]; exact (hK.1.1 ci q hq).2.1⟩
theorem v_callSi (C : Cx G p s m args meth c y cc nL ret ws) {y2 : MethodName} {bytes : ByteArray} {maxL mc ms n index F L : Nat} {ret2 : Option FieldType} {ws2 : List Cond} {b t ci : Nat} {fs : List Value} {q : vw_C} {As rest : List Value} {post : Int → Wd → Prop} (hM : MG G l y2 ws2 F L mc ms As w (pI post)) (cw : CallB R s args y.cls index y2 bytes maxL ret2 ws2 { frames := F, cells := mc, slots := ms, locals := L } mc ms n ∧ (Cond.static y2).before args s = true) (hn : As.length = n) (hst : st = As.reverse ++ rest) (hW : (rest.map fun v => v.category).sum ≤ 8) (d : decode cc pc = .ok (.invokestatic index, 3)) (hk : k + mc ≤ R.cells) (hz : z + ms ≤ R.slots)
    (kk : ∀ (x : Int) (w' : Wd), post x w' → V G p l e R s m args below meth c Q w' (k + mc) (z + ms) (pc + 3) ll (.int (iI x) :: rest)) : V G p l e R s m args below meth c Q w k z pc ll st := by
  obtain ⟨hx, hb2, hnl, hown, hts, -, -, hK, -⟩ := id C
  exact v_call (rest := rest) (fun H locs ls hR hs => va_runS (As := As) (rest := rest) ⟨hx, hb2, hnl, hown, hts⟩ hM cw ⟨PcW.blind, fun U hU hWa => ⟨rfl, by rw [hU]; exact hR, KK.warm hWa hK⟩⟩ rfl hn (hs.trans hnl) hst (by show 2 * 0 + _ ≤ 8; omega) d ⟨hk, hz⟩) (fun v w' hp => by obtain ⟨x, rfl, hp⟩ := hp; exact kk x w' hp)
theorem v_callVl (C : Cx G p s m args meth c y cc nL ret ws) {y2 : MethodName} {bytes : ByteArray} {maxL mc ms n index F L : Nat} {ret2 : Option FieldType} {ws2 : List Cond} {b t ci : Nat} {fs : List Value} {q : vw_C} {As rest : List Value} {post : Int → Wd → Prop} (hM : MG G l y2 ws2 F L mc ms (.ref b :: As) w (pL post)) (cw : CallW R s args y.cls q.1 index y2 bytes maxL ret2 ws2 { frames := F, cells := mc, slots := ms, locals := L } mc ms n) (hb : w b = some (t, .inr (ci, fs))) (hq : vwCl[ci]? = some q) (hn : As.length = n) (hst : st = As.reverse ++ .ref b :: rest) (hW : (rest.map fun v => v.category).sum ≤ 8) (d : decode cc pc = .ok (.invokevirtual index, 3)) (hk : k + mc ≤ R.cells) (hz : z + ms ≤ R.slots)
    (kk : ∀ (x : Int) (w' : Wd), post x w' → V G p l e R s m args below meth c Q w' (k + mc) (z + ms) (pc + 3) ll (.long (lI x) :: rest)) : V G p l e R s m args below meth c Q w k z pc ll st := by
  obtain ⟨hx, hb2, hnl, hown, hts, -, -, hK, -⟩ := id C
  refine v_call (rest := rest) (fun H locs ls hR hs => va_runV (As := As) (rest := rest) ⟨hx, hb2, hnl, hown, hts⟩ hM cw ⟨PcW.blind, ?_, fun U hU hWa => ⟨rfl, by rw [hU]; exact hR, KK.warm hWa hK⟩⟩ rfl hn (hs.trans hnl) hst (by show 2 * 0 + _ ≤ 8; omega) d ⟨hk, hz⟩) (fun v w' hp => by obtain ⟨x, rfl, hp⟩ := hp; exact kk x w' hp)
  obtain ⟨-, r', hr', cellV, g1, g2, g3, -⟩ := hR.2.2 _ _ _ hb
  exact ⟨cellV, g1, by rw [g3]; rfl, by rw [g2]; exact (hK.1.1 ci q hq).2.1⟩
theorem v_callSl (C : Cx G p s m args meth c y cc nL ret ws) {y2 : MethodName} {bytes : ByteArray} {maxL mc ms n index F L : Nat} {ret2 : Option FieldType} {ws2 : List Cond} {b t ci : Nat} {fs : List Value} {q : vw_C} {As rest : List Value} {post : Int → Wd → Prop} (hM : MG G l y2 ws2 F L mc ms As w (pL post)) (cw : CallB R s args y.cls index y2 bytes maxL ret2 ws2 { frames := F, cells := mc, slots := ms, locals := L } mc ms n ∧ (Cond.static y2).before args s = true) (hn : As.length = n) (hst : st = As.reverse ++ rest) (hW : (rest.map fun v => v.category).sum ≤ 8) (d : decode cc pc = .ok (.invokestatic index, 3)) (hk : k + mc ≤ R.cells) (hz : z + ms ≤ R.slots)
    (kk : ∀ (x : Int) (w' : Wd), post x w' → V G p l e R s m args below meth c Q w' (k + mc) (z + ms) (pc + 3) ll (.long (lI x) :: rest)) : V G p l e R s m args below meth c Q w k z pc ll st := by
  obtain ⟨hx, hb2, hnl, hown, hts, -, -, hK, -⟩ := id C
  exact v_call (rest := rest) (fun H locs ls hR hs => va_runS (As := As) (rest := rest) ⟨hx, hb2, hnl, hown, hts⟩ hM cw ⟨PcW.blind, fun U hU hWa => ⟨rfl, by rw [hU]; exact hR, KK.warm hWa hK⟩⟩ rfl hn (hs.trans hnl) hst (by show 2 * 0 + _ ≤ 8; omega) d ⟨hk, hz⟩) (fun v w' hp => by obtain ⟨x, rfl, hp⟩ := hp; exact kk x w' hp)
theorem v_callVv (C : Cx G p s m args meth c y cc nL ret ws) {y2 : MethodName} {bytes : ByteArray} {maxL mc ms n index F L : Nat} {ret2 : Option FieldType} {ws2 : List Cond} {b t ci : Nat} {fs : List Value} {q : vw_C} {As rest : List Value} {post : Wd → Prop} (hM : MG G l y2 ws2 F L mc ms (.ref b :: As) w (pV post)) (cw : CallW R s args y.cls q.1 index y2 bytes maxL ret2 ws2 { frames := F, cells := mc, slots := ms, locals := L } mc ms n) (hb : w b = some (t, .inr (ci, fs))) (hq : vwCl[ci]? = some q) (hn : As.length = n) (hst : st = As.reverse ++ .ref b :: rest) (hW : (rest.map fun v => v.category).sum ≤ 8) (d : decode cc pc = .ok (.invokevirtual index, 3)) (hk : k + mc ≤ R.cells) (hz : z + ms ≤ R.slots)
    (kk : ∀ (w' : Wd), post w' → V G p l e R s m args below meth c Q w' (k + mc) (z + ms) (pc + 3) ll rest) : V G p l e R s m args below meth c Q w k z pc ll st := by
  obtain ⟨hx, hb2, hnl, hown, hts, -, -, hK, -⟩ := id C
  refine v_call (rest := rest) (fun H locs ls hR hs => va_runV (As := As) (rest := rest) ⟨hx, hb2, hnl, hown, hts⟩ hM cw ⟨PcW.blind, ?_, fun U hU hWa => ⟨rfl, by rw [hU]; exact hR, KK.warm hWa hK⟩⟩ rfl hn (hs.trans hnl) hst (by show 2 * 0 + _ ≤ 8; omega) d ⟨hk, hz⟩) (fun v w' hp => by obtain ⟨rfl, hp⟩ := hp; exact kk w' hp)
  obtain ⟨-, r', hr', cellV, g1, g2, g3, -⟩ := hR.2.2 _ _ _ hb
  exact ⟨cellV, g1, by rw [g3]; rfl, by rw [g2]; exact (hK.1.1 ci q hq).2.1⟩
theorem v_callSv (C : Cx G p s m args meth c y cc nL ret ws) {y2 : MethodName} {bytes : ByteArray} {maxL mc ms n index F L : Nat} {ret2 : Option FieldType} {ws2 : List Cond} {b t ci : Nat} {fs : List Value} {q : vw_C} {As rest : List Value} {post : Wd → Prop} (hM : MG G l y2 ws2 F L mc ms As w (pV post)) (cw : CallB R s args y.cls index y2 bytes maxL ret2 ws2 { frames := F, cells := mc, slots := ms, locals := L } mc ms n ∧ (Cond.static y2).before args s = true) (hn : As.length = n) (hst : st = As.reverse ++ rest) (hW : (rest.map fun v => v.category).sum ≤ 8) (d : decode cc pc = .ok (.invokestatic index, 3)) (hk : k + mc ≤ R.cells) (hz : z + ms ≤ R.slots)
    (kk : ∀ (w' : Wd), post w' → V G p l e R s m args below meth c Q w' (k + mc) (z + ms) (pc + 3) ll rest) : V G p l e R s m args below meth c Q w k z pc ll st := by
  obtain ⟨hx, hb2, hnl, hown, hts, -, -, hK, -⟩ := id C
  exact v_call (rest := rest) (fun H locs ls hR hs => va_runS (As := As) (rest := rest) ⟨hx, hb2, hnl, hown, hts⟩ hM cw ⟨PcW.blind, fun U hU hWa => ⟨rfl, by rw [hU]; exact hR, KK.warm hWa hK⟩⟩ rfl hn (hs.trans hnl) hst (by show 2 * 0 + _ ≤ 8; omega) d ⟨hk, hz⟩) (fun v w' hp => by obtain ⟨rfl, hp⟩ := hp; exact kk w' hp)
theorem v_callVr (C : Cx G p s m args meth c y cc nL ret ws) {y2 : MethodName} {bytes : ByteArray} {maxL mc ms n index F L : Nat} {ret2 : Option FieldType} {ws2 : List Cond} {b t ci : Nat} {fs : List Value} {q : vw_C} {As rest : List Value} {post : Option Nat → Wd → Prop} (hM : MG G l y2 ws2 F L mc ms (.ref b :: As) w (pR post)) (cw : CallW R s args y.cls q.1 index y2 bytes maxL ret2 ws2 { frames := F, cells := mc, slots := ms, locals := L } mc ms n) (hb : w b = some (t, .inr (ci, fs))) (hq : vwCl[ci]? = some q) (hn : As.length = n) (hst : st = As.reverse ++ .ref b :: rest) (hW : (rest.map fun v => v.category).sum ≤ 8) (d : decode cc pc = .ok (.invokevirtual index, 3)) (hk : k + mc ≤ R.cells) (hz : z + ms ≤ R.slots)
    (kk : ∀ (x : Option Nat) (w' : Wd), post x w' → V G p l e R s m args below meth c Q w' (k + mc) (z + ms) (pc + 3) ll (va_rf x :: rest)) : V G p l e R s m args below meth c Q w k z pc ll st := by
  obtain ⟨hx, hb2, hnl, hown, hts, -, -, hK, -⟩ := id C
  refine v_call (rest := rest) (fun H locs ls hR hs => va_runV (As := As) (rest := rest) ⟨hx, hb2, hnl, hown, hts⟩ hM cw ⟨PcW.blind, ?_, fun U hU hWa => ⟨rfl, by rw [hU]; exact hR, KK.warm hWa hK⟩⟩ rfl hn (hs.trans hnl) hst (by show 2 * 0 + _ ≤ 8; omega) d ⟨hk, hz⟩) (fun v w' hp => by obtain ⟨x, rfl, hp⟩ := hp; exact kk x w' hp)
  obtain ⟨-, r', hr', cellV, g1, g2, g3, -⟩ := hR.2.2 _ _ _ hb
  exact ⟨cellV, g1, by rw [g3]; rfl, by rw [g2]; exact (hK.1.1 ci q hq).2.1⟩
theorem v_callSr (C : Cx G p s m args meth c y cc nL ret ws) {y2 : MethodName} {bytes : ByteArray} {maxL mc ms n index F L : Nat} {ret2 : Option FieldType} {ws2 : List Cond} {b t ci : Nat} {fs : List Value} {q : vw_C} {As rest : List Value} {post : Option Nat → Wd → Prop} (hM : MG G l y2 ws2 F L mc ms As w (pR post)) (cw : CallB R s args y.cls index y2 bytes maxL ret2 ws2 { frames := F, cells := mc, slots := ms, locals := L } mc ms n ∧ (Cond.static y2).before args s = true) (hn : As.length = n) (hst : st = As.reverse ++ rest) (hW : (rest.map fun v => v.category).sum ≤ 8) (d : decode cc pc = .ok (.invokestatic index, 3)) (hk : k + mc ≤ R.cells) (hz : z + ms ≤ R.slots)
    (kk : ∀ (x : Option Nat) (w' : Wd), post x w' → V G p l e R s m args below meth c Q w' (k + mc) (z + ms) (pc + 3) ll (va_rf x :: rest)) : V G p l e R s m args below meth c Q w k z pc ll st := by
  obtain ⟨hx, hb2, hnl, hown, hts, -, -, hK, -⟩ := id C
  exact v_call (rest := rest) (fun H locs ls hR hs => va_runS (As := As) (rest := rest) ⟨hx, hb2, hnl, hown, hts⟩ hM cw ⟨PcW.blind, fun U hU hWa => ⟨rfl, by rw [hU]; exact hR, KK.warm hWa hK⟩⟩ rfl hn (hs.trans hnl) hst (by show 2 * 0 + _ ≤ 8; omega) d ⟨hk, hz⟩) (fun v w' hp => by obtain ⟨x, rfl, hp⟩ := hp; exact kk x w' hp)
theorem v_callI (C : Cx G p s m args meth c y cc nL ret ws) {y2 : MethodName} {bytes : ByteArray} {maxL mc ms n index F L : Nat} {ret2 : Option FieldType} {ws2 : List Cond} {b t ci : Nat} {fs : List Value} {q : vw_C} {As rest : List Value} {post : Wd → Prop} (hM : MG G l y2 ws2 F L mc ms (.ref b :: As) w (pV post)) (cw : CallB R s args y.cls index y2 bytes maxL none ws2 { frames := F, cells := mc, slots := ms, locals := L } mc ms n ∧ y2.name = "<init>" ∧ (Cond.instanceMethod y2).before args s = true) (hn : As.length = n) (hst : st = As.reverse ++ .ref b :: rest) (hW : (rest.map fun v => v.category).sum ≤ 8) (d : decode cc pc = .ok (.invokespecial index, 3)) (hk : k + mc ≤ R.cells) (hz : z + ms ≤ R.slots)
    (kk : ∀ (w' : Wd), post w' → V G p l e R s m args below meth c Q w' (k + mc) (z + ms) (pc + 3) ll rest) : V G p l e R s m args below meth c Q w k z pc ll st := by
  obtain ⟨hx, hb2, hnl, hown, hts, -, -, hK, -⟩ := id C
  exact v_call (rest := rest) (fun H locs ls hR hs => va_runI (As := As) (rest := rest) ⟨hx, hb2, hnl, hown, hts⟩ hM cw ⟨PcW.blind, fun U hU hWa => ⟨rfl, by rw [hU]; exact hR, KK.warm hWa hK⟩⟩ rfl hn (hs.trans hnl) hst (by show 2 * 0 + _ ≤ 8; omega) d ⟨hk, hz⟩) (fun v w' hp => by obtain ⟨rfl, hp⟩ := hp; exact kk w' hp)
theorem v_wide {k' z' : Nat} (h1 : k ≤ k') (h2 : z ≤ z') (kk : V G p l e R s m args below meth c Q w k' z' pc ll st) : V G p l e R s m args below meth c Q w k z pc ll st := fun H locs ls hR hL hl => W.widen h1 h2 (kk H locs ls hR hL hl)
end VB
