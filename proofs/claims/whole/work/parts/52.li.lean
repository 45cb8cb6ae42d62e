section LIS
variable {G : GG} {w w2 : Wd} {S : Nat → Prop} {bk mo o : Nat} {n : Int} {wA tA rA rB TA TB a : Nat} {lq oq : Option Nat} {ad : Nat → Nat} {capT capA capB vcA vcB : Int} {c0 nw op sm ti sp nm nc sz ts av fi wr rm rc : Int} {A1 A3 A4 A9 A10 A11 A13 A14 A15 A16 A18 A20 A25 A26 A27 A28 A30 A31 : Int → Int} {ML : ML3} {OL : ML2} {MA : Int → Nat}
def CI (G : GG) (w : Wd) (bk wA tA rA rB TA TB a : Nat) (lq oq : Option Nat) (nw ts capT capA capB vcA vcB ti sp : Int) (A1 A20 : Int → Int) (ML : ML3) (OL : ML2) (MA : Int → Nat) : Prop := w bk = some (1, .inr (9, [.ref wA, .ref tA, .ref rA, .ref rB, va_rf lq, va_rf oq])) ∧ WiresAt G w wA nw A1 ∧ BytesAt G w 4 tA ts capT A20 ∧ RowM G w TA rA capA vcA ML MA ∧ SpR G w TB rB capB vcB ∧ LatAt w lq a ti sp ∧ OpenAt G w ML MA oq a ti sp OL
def TT (TA TB : Nat) : Prop := (TA = 10 ∧ TB = 20) ∨ (TA = 20 ∧ TB = 10)
def CP (TA TB : Nat) (lq oq : Option Nat) (nw ts ti sp : Int) (A1 A20 : Int → Int) (ML : ML3) (OL : ML2) (n : Int) : Prop := TT TA TB ∧ (0 ≤ nw ∧ nw ≤ 200) ∧ (∀ i, 0 ≤ i → i < nw → 1 ≤ A1 i ∧ A1 i ≤ 64) ∧ okL nw A1 0 (-1) (fun _ => 0) ML ∧ okC nw A1 (-1) (sall (fun _ => 0) ML) OL ∧ (0 ≤ ti ∧ ti < 1152921504606846976 ∧ 0 ≤ sp ∧ sp < 1152921504606846976) ∧ (lq = none → oq = none ∧ ML = []) ∧ (oq ≠ none → lasT 0 ML < ti ∨ (lasT 0 ML = ti ∧ lasS (-1) ML < sp)) ∧ (lq ≠ none → lasT 0 ML < ti ∨ (lasT 0 ML = ti ∧ lasS (-1) ML ≤ sp)) ∧ (0 ≤ ts ∧ ts ≤ 4 * n) ∧ (∀ q, 0 ≤ q → q < ts → 0 ≤ A20 q ∧ A20 q ≤ 255) ∧ ((ML.length : Int) ≤ n ∧ numC ML + OL.length ≤ 2 * n) ∧ (0 ≤ n ∧ n ≤ 512)
def RP (lq oq : Option Nat) (ML : ML3) (OL : ML2) (nw op sm nm nc sz : Int) (A3 A4 A9 A10 A11 A13 A14 A15 A16 A18 A25 : Int → Int) : Prop := RelM ML nm nc sz A3 A9 A10 A11 A13 A14 A15 A16 A18 ∧ A4 = sfold A3 OL ∧ ((oq = none ∧ op = 0) ∨ (oq ≠ none ∧ op = 1)) ∧ ((lq = none ∧ sm = 0) ∨ (lq ≠ none ∧ sm = 1)) ∧ ∀ q, ¬ (0 ≤ q ∧ q < 64 * nw) → A25 q = 0
def CO (ts capT capA capB vcA vcB n : Int) (kx zx : Nat) : Prop := (kx : Int) + 3 * ts ≤ 200 + 24 * n + (capT + capA + capB + vcA + vcB) ∧ (zx : Int) + 1600 * ts ≤ 440000 + 8000 * n + 2 * (capT + capA + capB + vcA + vcB) ∧ (64 ≤ capT ∧ capT ≤ 120002 ∧ 64 ≤ capA ∧ capA ≤ 120002 ∧ 64 ≤ capB ∧ capB ≤ 120002) ∧ (64 ≤ vcA ∧ vcA ≤ 25600 ∧ 64 ≤ vcB ∧ vcB ≤ 25600)
def LI (G : GG) (w : Wd) (bk mo o : Nat) (n c0 : Int) (f : Int → Int) (kx zx : Nat) : Prop := ∃ (wA tA rA rB TA TB a : Nat) (lq oq : Option Nat) (ad : Nat → Nat) (capT capA capB vcA vcB : Int) (nw op sm ti sp nm nc sz ts av fi wr rm rc : Int) (A1 A3 A4 A9 A10 A11 A13 A14 A15 A16 A18 A20 A25 A26 A27 A28 A30 A31 : Int → Int) (ML : ML3) (OL : ML2) (MA : Int → Nat), CI G w bk wA tA rA rB TA TB a lq oq nw ts capT capA capB vcA vcB ti sp A1 A20 ML OL MA ∧ CP TA TB lq oq nw ts ti sp A1 A20 ML OL n ∧ RefAt G mo ad w c0 nw op sm ti sp nm nc sz ts av fi wr rm rc A1 A3 A4 A9 A10 A11 A13 A14 A15 A16 A18 A20 A25 A26 A27 A28 A30 A31 ∧ RP lq oq ML OL nw op sm nm nc sz A3 A4 A9 A10 A11 A13 A14 A15 A16 A18 A25 ∧ w o = some (7, .inl (gJ G, aJ 1 f)) ∧ CO ts capT capA capB vcA vcB n kx zx
theorem CI.fr (h : CI G w bk wA tA rA rB TA TB a lq oq nw ts capT capA capB vcA vcB ti sp A1 A20 ML OL MA) (hF : Fr S w w2) (hT : TT TA TB) (hS : ∀ t, S t → t = 0 ∨ (6 ≤ t ∧ t < 10) ∨ (30 ≤ t ∧ t < 100)) : CI G w2 bk wA tA rA rB TA TB a lq oq nw ts capT capA capB vcA vcB ti sp A1 A20 ML OL MA := by
  obtain ⟨h1, h2, h3, h4, h5, h6, h7⟩ := h
  have k : ∀ t, ¬ (t = 0 ∨ (6 ≤ t ∧ t < 10) ∨ (30 ≤ t ∧ t < 100)) → ¬ S t := fun t g q => g (hS t q)
  have hT : (TA = 10 ∧ TB = 20) ∨ (TA = 20 ∧ TB = 10) := hT
  exact ⟨hF _ _ _ (k _ (by omega)) h1, h2.fr hF (k _ (by omega)) (k _ (by omega)), h3.fr hF (k _ (by omega)) (k _ (by omega)), h4.fr hF (fun t x y => k _ (by omega)) (fun i x y t z u => k _ (by omega)), h5.fr hF (fun t x y => k _ (by omega)), h6.fr hF (k _ (by omega)), h7.fr hF (k _ (by omega)) (k _ (by omega)) (k _ (by omega)) (k _ (by omega))⟩
theorem CI.frN {a9 : Nat} (h : CI G w bk wA tA rA rB TA TB a lq oq nw ts capT capA capB vcA vcB ti sp A1 A20 ML OL MA) (hF : Fr (fun t => t = 0 ∨ (100 + 4 * a9 ≤ t ∧ t < 104 + 4 * a9)) w w2) (ha : w a9 = none) (hT : TT TA TB) : CI G w2 bk wA tA rA rB TA TB a lq oq nw ts capT capA capB vcA vcB ti sp A1 A20 ML OL MA := by
  obtain ⟨h1, h2, h3, h4, h5, h6, h7⟩ := h
  have hT : (TA = 10 ∧ TB = 20) ∨ (TA = 20 ∧ TB = 10) := hT
  have hm : ∀ i : Int, 0 ≤ i → i < ML.length → MA i ≠ a9 := fun i x y q => by
    obtain ⟨vs, e⟩ := h4.mem x y
    rw [q, ha] at e
    cases e
  refine ⟨hF _ _ _ (by omega) h1, h2.fr hF (by omega) (by omega), h3.fr hF (by omega) (by omega), h4.fr hF (fun t x y => by omega) (fun i x y t z u => by have := hm i x y; omega), h5.fr hF (fun t x y => by omega), ?_, ?_⟩
  · rcases h6 with h | ⟨g1, g3, g4, g5⟩
    · exact Or.inl h
    · have hne : a ≠ a9 := fun q => by rw [q, ha] at g5; cases g5
      exact Or.inr ⟨g1, g3, g4, hF _ _ _ (by omega) g5⟩
  · rcases h7 with h | ⟨g1, g2, g3⟩
    · exact Or.inl h
    · have hne : a ≠ a9 := fun q => by
        obtain ⟨fs, e⟩ := g2.obj
        rw [q, ha] at e
        cases e
      exact Or.inr ⟨g1, g2.fr hF (by omega) (by omega) (by omega) (by omega), g3⟩
theorem RefAt.cf (h : RefAt G mo ad w c0 nw op sm ti sp nm nc sz ts av fi wr rm rc A1 A3 A4 A9 A10 A11 A13 A14 A15 A16 A18 A20 A25 A26 A27 A28 A30 A31) (hF : Fr S w w2) (hS : ∀ t, S t → t < 30 ∨ 100 ≤ t) : RefAt G mo ad w2 c0 nw op sm ti sp nm nc sz ts av fi wr rm rc A1 A3 A4 A9 A10 A11 A13 A14 A15 A16 A18 A20 A25 A26 A27 A28 A30 A31 := h.fr hF (fun t q m => by
  have := hS t q
  have m : 30 ≤ t ∧ t < 70 := m
  omega)
theorem out_fr {f : Int → Int} (h : w o = some (7, .inl (gJ G, aJ 1 f))) (hF : Fr S w w2) (hS : ¬ S 7) : w2 o = some (7, .inl (gJ G, aJ 1 f)) := hF _ _ _ hS h
theorem mT_S : ∀ t, mT t → t = 0 ∨ (6 ≤ t ∧ t < 10) ∨ (30 ≤ t ∧ t < 100) := fun t h => by
  have h : 30 ≤ t ∧ t < 70 := h
  omega
theorem mT_7 : ¬ mT 7 := fun h => by
  have h : 30 ≤ 7 ∧ 7 < 70 := h
  omega
theorem BytesAt.ch {T r : Nat} {len len' cap : Int} {b : Int → Int} (h : BytesAt G w T r len cap b) (e : len = len') : BytesAt G w T r len' cap b := e ▸ h
theorem RP.bd {n : Int} (h : RP lq oq ML OL nw op sm nm nc sz A3 A4 A9 A10 A11 A13 A14 A15 A16 A18 A25) (hp : CP TA TB lq oq nw ts ti sp A1 A20 ML OL n) : (∀ i, 0 ≤ i → i < 12800 → 0 ≤ A3 i ∧ A3 i ≤ 8) ∧ (∀ i, 0 ≤ i → i < 12800 → 0 ≤ A4 i ∧ A4 i ≤ 8) ∧ (∀ q, ¬ (0 ≤ q ∧ q < 64 * nw) → A3 q = 0) ∧ (∀ q, ¬ (0 ≤ q ∧ q < 64 * nw) → A4 q = 0) ∧ A3 = sall (fun _ => 0) ML ∧ drF A4 A3 (64 * nw).toNat 0 = OL.map Prod.fst ∧ (0 ≤ nm ∧ nm ≤ 512) ∧ (0 ≤ nc ∧ nc + OL.length ≤ 1024) ∧ (op = 0 ∨ op = 1) ∧ (sm = 0 ∨ sm = 1) := by
  obtain ⟨h1, h2, h3, h4, h5⟩ := h
  obtain ⟨p1, p2, p3, p4, p5, p6, p7, p8, p9, p10, p11, p12, p13⟩ := hp
  obtain ⟨e1, e2, e3, e4⟩ := h1.1
  have n0 := numC_0 ML
  have k3 : ∀ i, 0 ≤ i → i < 12800 → 0 ≤ A3 i ∧ A3 i ≤ 8 := by rw [e4]; exact sall_bd p4 (fun _ _ _ => ⟨by omega, by omega⟩)
  have k5 : ∀ q, ¬ (0 ≤ q ∧ q < 64 * nw) → A3 q = 0 := by rw [e4]; exact sall_out p4 (fun _ _ => rfl)
  rw [← e4] at p5
  refine ⟨k3, by rw [h2]; exact sfold_bd p5 k3, k5, by rw [h2]; exact sfold_out p5 k5, e4, by rw [h2]; exact drF_L p2.1 p5, ⟨by omega, by omega⟩, ⟨by omega, by omega⟩, ?_, ?_⟩
  · rcases h3 with ⟨-, h⟩ | ⟨-, h⟩ <;> omega
  · rcases h4 with ⟨-, h⟩ | ⟨-, h⟩ <;> omega
theorem encAll_bd {n : Int} (hp : CP TA TB lq oq nw ts ti sp A1 A20 ML OL n) (ho : oq ≠ none) : okL nw A1 0 (-1) (fun _ => 0) (addM ML ti sp OL) ∧ ((encAll 0 (-1) (fun _ => 0) (addM ML ti sp OL)).length : Int) ≤ 60000 := by
  obtain ⟨p1, p2, p3, p4, p5, p6, p7, p8, p9, p10, p11, p12, p13⟩ := hp
  have n0 := numC_0 ML
  have key : ∀ X : ML3, okL nw A1 0 (-1) (fun _ => 0) X → (X.length : Int) ≤ n + 1 → numC X ≤ 2 * n → ((encAll 0 (-1) (fun _ => 0) X).length : Int) ≤ 60000 := fun X h1 h2 h3 => by
    have := encAll_le (nw := nw) (A1 := A1) p2.2 h1 (Int.le_refl _) (Int.le_refl _) (by omega)
    omega
  by_cases e : OL = []
  · subst e
    rw [addM_0]
    exact ⟨p4, key _ p4 (by omega) (by have := p12.2; simp at this; omega)⟩
  · rw [addM_N e]
    have h9 : okL nw A1 0 (-1) (fun _ => 0) (ML ++ [(ti, sp, OL)]) := okL_snoc.mpr ⟨p4, p6.1, p6.2.1, p6.2.2.1, p6.2.2.2, p8 ho, e, p5⟩
    exact ⟨h9, key _ h9 (by rw [List.length_append]; have := p12.1; show ((ML.length + 1 : Nat) : Int) ≤ n + 1; omega) (by rw [numC_snoc]; exact p12.2)⟩
end LIS
