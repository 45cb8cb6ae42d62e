section LJS
variable {G : GG} {l : Launch} {w w1 w2 : Wd} {S : Nat → Prop} {bk mo o mc ms kx zx : Nat} {n : Int} {f : Int → Int} {wA tA rA rB TA TB a : Nat} {lq oq : Option Nat} {ad : Nat → Nat} {capT capA capB vcA vcB : Int} {c0 nw op sm ti sp nm nc sz ts av fi wr rm rc : Int} {A1 A3 A4 A9 A10 A11 A13 A14 A15 A16 A18 A20 A25 A26 A27 A28 A30 A31 : Int → Int} {ML : ML3} {OL : ML2} {MA : Int → Nat}
theorem LI.mk (h1 : CI G w bk wA tA rA rB TA TB a lq oq nw ts capT capA capB vcA vcB ti sp A1 A20 ML OL MA) (h2 : CP TA TB lq oq nw ts ti sp A1 A20 ML OL n) (h3 : RefAt G mo ad w c0 nw op sm ti sp nm nc sz ts av fi wr rm rc A1 A3 A4 A9 A10 A11 A13 A14 A15 A16 A18 A20 A25 A26 A27 A28 A30 A31) (h4 : RP lq oq ML OL nw op sm nm nc sz A3 A4 A9 A10 A11 A13 A14 A15 A16 A18 A25) (h5 : w o = some (7, .inl (gJ G, aJ 1 f))) (h6 : CO ts capT capA capB vcA vcB n kx zx) : LI G w bk mo o n c0 f kx zx := ⟨_, _, _, _, _, _, _, _, _, _, _, _, _, _, _, _, _, _, _, _, _, _, _, _, _, _, _, _, _, _, _, _, _, _, _, _, _, _, _, _, _, _, _, _, _, _, _, _, _, _, h1, h2, h3, h4, h5, h6⟩
theorem CP.up (h : CP TA TB lq oq nw ts ti sp A1 A20 ML OL n) (hn : n < 512) : CP TA TB lq oq nw ts ti sp A1 A20 ML OL (n + 1) := by
  obtain ⟨p1, p2, p3, p4, p5, p6, p7, p8, p9, p10, p11, p12, p13⟩ := h
  exact ⟨p1, p2, p3, p4, p5, p6, p7, p8, p9, ⟨by omega, by omega⟩, p11, ⟨by omega, by omega⟩, ⟨by omega, by omega⟩⟩
theorem CO.up (h : CO ts capT capA capB vcA vcB n kx zx) (h1 : mc ≤ 24) (h2 : ms ≤ 8000) : CO ts capT capA capB vcA vcB (n + 1) (kx + mc) (zx + ms) := by
  obtain ⟨q1, q2, q3, q4⟩ := h
  refine ⟨?_, ?_, q3, q4⟩
  · rw [Int.natCast_add]; omega
  · rw [Int.natCast_add]; omega
theorem CO.fit (h : CO ts capT capA capB vcA vcB n kx zx) (ht : 0 ≤ ts) (hn : n ≤ 512) : kx ≤ 601024 ∧ zx ≤ 7293034 := by
  obtain ⟨q1, q2, q3, q4⟩ := h
  exact ⟨by omega, by omega⟩
theorem keep (hC : CI G w1 bk wA tA rA rB TA TB a lq oq nw ts capT capA capB vcA vcB ti sp A1 A20 ML OL MA) (hP : CP TA TB lq oq nw ts ti sp A1 A20 ML OL n) (hn : n < 512) (hQ : RP lq oq ML OL nw op sm nm nc sz A3 A4 A9 A10 A11 A13 A14 A15 A16 A18 A25) (ho : w1 o = some (7, .inl (gJ G, aJ 1 f))) (hF : Fr mT w1 w2) (hR : RefAt G mo ad w2 c0 nw op sm ti sp nm nc sz ts av fi wr rm rc A1 A3 A4 A9 A10 A11 A13 A14 A15 A16 A18 A20 A25 A26 A27 A28 A30 A31) (hO : CO ts capT capA capB vcA vcB (n + 1) kx zx) : LI G w2 bk mo o (n + 1) c0 f kx zx := LI.mk (hC.fr hF hP.1 mT_S) (hP.up hn) hR hQ (out_fr ho hF mT_7) hO
theorem CP.fit (h : CP TA TB lq oq nw ts ti sp A1 A20 ML OL n) : ((encAll 0 (-1) (fun _ => 0) ML).length : Int) ≤ 60000 := by
  obtain ⟨p1, p2, p3, p4, p5, p6, p7, p8, p9, p10, p11, p12, p13⟩ := h
  have n0 := numC_0 ML
  have := encAll_le (nw := nw) (A1 := A1) p2.2 p4 (Int.le_refl _) (Int.le_refl _) (by omega)
  omega
theorem OpenAt.on (h : OpenAt G w ML MA oq a ti sp OL) : OL ≠ [] → oq ≠ none := fun g => by
  rcases h with ⟨-, h⟩ | ⟨h, -⟩
  · exact absurd h g
  · rw [h]; exact fun q => nomatch q
theorem fitM (h : CP TA TB lq oq nw ts ti sp A1 A20 ML OL n) (ho : OL ≠ [] → oq ≠ none) : okL nw A1 0 (-1) (fun _ => 0) (addM ML ti sp OL) ∧ ((encAll 0 (-1) (fun _ => 0) (addM ML ti sp OL)).length : Int) ≤ 60000 := by
  by_cases e : OL = []
  · rw [e, addM_0]; exact ⟨h.2.2.2.1, h.fit⟩
  · exact encAll_bd h (ho e)
theorem addM_n : ((addM ML ti sp OL).length : Int) ≤ ML.length + 1 ∧ numC (addM ML ti sp OL) = numC ML + OL.length ∧ sall (fun _ => 0) (addM ML ti sp OL) = sfold (sall (fun _ => 0) ML) OL := by
  by_cases e : OL = []
  · subst e
    rw [addM_0]
    exact ⟨by omega, by show numC ML = numC ML + ((0 : Nat) : Int); omega, rfl⟩
  · rw [addM_N e, numC_snoc, sall_snoc, List.length_append]
    exact ⟨Int.le_refl _, rfl, rfl⟩
theorem addM_l : (OL = [] ∧ lasT 0 (addM ML ti sp OL) = lasT 0 ML ∧ lasS (-1) (addM ML ti sp OL) = lasS (-1) ML) ∨ (OL ≠ [] ∧ lasT 0 (addM ML ti sp OL) = ti ∧ lasS (-1) (addM ML ti sp OL) = sp) := by
  by_cases e : OL = []
  · refine Or.inl ⟨e, ?_⟩
    rw [e, addM_0]; exact ⟨rfl, rfl⟩
  · refine Or.inr ⟨e, ?_⟩
    rw [addM_N e, lasT_snoc, lasS_snoc]; exact ⟨rfl, rfl⟩
theorem okL_mem : ∀ {ML : ML3} {lt ls : Int} {S : Int → Int}, okL nw A1 lt ls S ML → ∀ x ∈ ML, (0 ≤ x.1 ∧ x.1 < 1152921504606846976 ∧ 0 ≤ x.2.1 ∧ x.2.1 < 1152921504606846976) ∧ ∃ S', okC nw A1 (-1) S' x.2.2
  | [], _, _, _, _ => fun x h => absurd h List.not_mem_nil
  | q :: M, lt, ls, S, h => fun x hx => by
    obtain ⟨⟨a1, a2, a3, a4, a5, a6, a7⟩, h2⟩ := h
    rcases List.mem_cons.mp hx with rfl | hx
    · exact ⟨⟨a1, a2, a3, a4⟩, S, a7⟩
    · exact okL_mem h2 x hx
theorem okL_num : ∀ {ML : ML3} {lt ls : Int} {S : Int → Int}, okL nw A1 lt ls S ML → (ML.length : Int) ≤ numC ML
  | [], _, _, _, _ => Int.le_refl _
  | q :: M, lt, ls, S, h => by
    obtain ⟨⟨a1, a2, a3, a4, a5, a6, a7⟩, h2⟩ := h
    have := okL_num h2
    have k : 0 < q.2.2.length := List.length_pos_iff.mpr a6
    show ((M.length + 1 : Nat) : Int) ≤ q.2.2.length + numC M
    omega
theorem RelM.rg (h : RelM ML nm nc sz A3 A9 A10 A11 A13 A14 A15 A16 A18) (hok : okL nw A1 0 (-1) (fun _ => 0) ML) (hnw : nw ≤ 200) (hfit : ((encAll 0 (-1) (fun _ => 0) ML).length : Int) ≤ 60000) : (∀ k, 0 ≤ k → k < nc → 0 ≤ A13 k ∧ A13 k < nm) ∧ (∀ k, 0 ≤ k → k < nc → 0 ≤ A14 k ∧ A14 k < 12800) ∧ ∀ i, 0 ≤ i → i < nm → (0 ≤ A9 i ∧ A9 i < 1152921504606846976) ∧ (0 ≤ A10 i ∧ A10 i < 1152921504606846976) ∧ (0 ≤ A11 i ∧ A11 i ≤ 60000) := by
  have e1 := h.1.1
  have e2 := h.1.2.1
  have mem : ∀ i : Int, 0 ≤ i → i < ML.length → mI ML i ∈ ML := fun i a b => by
    have := mI_get (ML := ML) (k := i.toNat) (by omega)
    rw [show ((i.toNat : Nat) : Int) = i by omega] at this
    rw [this]
    exact List.getElem_mem _
  refine ⟨fun k a b => ?_, fun k a b => ?_, fun i a b => ?_⟩
  · obtain ⟨i, j, hi, hj, rfl⟩ := flatF (ML := ML) a (by omega)
    rw [((h.flat i hi.1 hi.2).2 j hj.1 hj.2).1]
    omega
  · obtain ⟨i, j, hi, hj, rfl⟩ := flatF (ML := ML) a (by omega)
    rw [((h.flat i hi.1 hi.2).2 j hj.1 hj.2).2.1]
    obtain ⟨-, S', hS⟩ := okL_mem hok _ (mem i hi.1 hi.2)
    exact (okC_srt hnw hS).1.1 j hj.1 hj.2
  · obtain ⟨f1, f2, f3⟩ := (h.flat i a (by omega)).1
    obtain ⟨g, -⟩ := okL_mem hok _ (mem i a (by omega))
    have := plF_le (ML := ML) (i := i)
    rw [f1, f2, f3]
    exact ⟨⟨g.1, g.2.1⟩, ⟨g.2.2.1, g.2.2.2⟩, ⟨this.1, by omega⟩⟩
theorem pro_ok2 {T : Int → Int} {N nw : Int} {A1 : Int → Int} (h1 : ∀ i, 0 ≤ i → i < nw → 1 ≤ A1 i ∧ A1 i ≤ 64) : ∀ (k : Nat) (a t s : Int) (S : Int → Int), (N - a).toNat ≤ k → 0 ≤ a → a ≤ N → (0 ≤ t ∧ t < 1152921504606846976) → (-1 ≤ s ∧ s < 1152921504606846976) →
    okL nw A1 t s S (pro T N nw A1 a t s S).2 ∧ a + 2 * ((pro T N nw A1 a t s S).2.length : Int) + 2 * numC (pro T N nw A1 a t s S).2 ≤ N := by
  intro k
  induction k with
  | zero =>
    intro a t s S hk h0 hN ht hs
    rw [pro_0 (by omega)]
    exact ⟨trivial, by simp [numC]; omega⟩
  | succ k ih =>
    intro a t s S hk h0 hN ht hs
    by_cases c0 : N ≤ a
    · rw [pro_0 c0]; exact ⟨trivial, by simp [numC]; omega⟩
    · by_cases c1 : (pmo T N nw A1 a t s S).1 = -1
      · have r := pmo_ok h1 h0 hN ht hs c1
        have e := pro_go c0 c1 (by omega) rfl
        obtain ⟨r1, r2, r3, r4, r5, r6, r7, r8, r9⟩ := r
        have i := ih (pmo T N nw A1 a t s S).2.1 (pmo T N nw A1 a t s S).2.2.1 (pmo T N nw A1 a t s S).2.2.2.1 (sfold S (pmo T N nw A1 a t s S).2.2.2.2) (by omega) (by omega) r2 ⟨r3, r4⟩ ⟨by omega, r6⟩
        rw [e]
        refine ⟨⟨⟨r3, r4, r5, r6, r7, r8, r9⟩, i.1⟩, ?_⟩
        simp only [List.length_cons, numC]
        have := i.2
        omega
      · rw [pro_f2 c0 c1]
        exact ⟨trivial, by simp [numC]; omega⟩
def TwoI (G : GG) (l : Launch) (w : Wd) (bk mo o : Nat) (n : Int) (kx zx : Nat) (y1 : MethodName) (ws1 : List Cond) (a1 : List Value) (y2 : MethodName) (ws2 : List Cond) (F2 L2 : Nat) (a2 : List Value) : Prop := ∃ (mc ms : Nat) (P : Int → Wd → Prop), (kx + mc ≤ 601024 ∧ zx + ms ≤ 7293034) ∧ MG G l y1 ws1 18 720 mc ms a1 w (pI P) ∧ ∀ x w1, P x w1 → (∃ fs, w1 mo = some (30, .inr (10, fs))) ∧ R32 x ∧ MG G l y2 ws2 F2 L2 0 0 a2 w1 (pI (fun y w2 => ∃ f9, LI G w2 bk mo o (n + 1) x f9 (kx + mc) (zx + ms) ∧ (x = 0 → f9 0 = nrm y)))
def TwoB (G : GG) (l : Launch) (w : Wd) (bk mo o : Nat) (n : Int) (kx zx : Nat) (y1 : MethodName) (ws1 : List Cond) (a1 : List Value) (y2 : MethodName) (ws2 : List Cond) (F2 L2 : Nat) (a2 : List Value) : Prop := ∃ (mc ms : Nat) (P : Int → Wd → Prop), (kx + mc ≤ 601024 ∧ zx + ms ≤ 7293034) ∧ MG G l y1 ws1 18 720 mc ms a1 w (pI P) ∧ ∀ x w1, P x w1 → (∃ fs, w1 mo = some (30, .inr (10, fs))) ∧ R32 x ∧ MG G l y2 ws2 F2 L2 0 0 a2 w1 (pI (fun y w2 => (y = 0 ∨ y = 1) ∧ ∃ f9, LI G w2 bk mo o (n + 1) x f9 (kx + mc) (zx + ms) ∧ (x = 0 → f9 0 = y)))
def TwoL (G : GG) (l : Launch) (w : Wd) (bk mo o : Nat) (n : Int) (kx zx : Nat) (y1 : MethodName) (ws1 : List Cond) (a1 : List Value) (y2 : MethodName) (ws2 : List Cond) (F2 L2 : Nat) (a2 : List Value) : Prop := ∃ (mc ms : Nat) (P : Int → Wd → Prop), (kx + mc ≤ 601024 ∧ zx + ms ≤ 7293034) ∧ MG G l y1 ws1 18 720 mc ms a1 w (pI P) ∧ ∀ x w1, P x w1 → (∃ fs, w1 mo = some (30, .inr (10, fs))) ∧ R32 x ∧ MG G l y2 ws2 F2 L2 0 0 a2 w1 (pL (fun y w2 => ∃ f9, LI G w2 bk mo o (n + 1) x f9 (kx + mc) (zx + ms) ∧ (x = 0 → f9 0 = nrmL y)))
def TwoV (G : GG) (l : Launch) (w : Wd) (bk mo o : Nat) (n : Int) (kx zx : Nat) (y1 : MethodName) (ws1 : List Cond) (a1 : List Value) (y2 : MethodName) (ws2 : List Cond) (F2 L2 : Nat) (a2 : List Value) : Prop := ∃ (mc ms : Nat) (P : Int → Wd → Prop), (kx + mc ≤ 601024 ∧ zx + ms ≤ 7293034) ∧ MG G l y1 ws1 18 720 mc ms a1 w (pI P) ∧ ∀ x w1, P x w1 → (∃ fs, w1 mo = some (30, .inr (10, fs))) ∧ R32 x ∧ MG G l y2 ws2 F2 L2 0 0 a2 w1 (pV (fun w2 => ∃ f9, LI G w2 bk mo o (n + 1) x f9 (kx + mc) (zx + ms)))
def TwoN (G : GG) (l : Launch) (w : Wd) (bk mo o : Nat) (n : Int) (kx zx : Nat) (y1 : MethodName) (ws1 : List Cond) (F1 L1 : Nat) (a1 : List Value) (y2 : MethodName) (ws2 : List Cond) (F2 L2 : Nat) (a2 : List Value) : Prop := ∃ (mc ms : Nat) (P : Int → Wd → Prop), (kx + mc ≤ 601024 ∧ zx + ms ≤ 7293034) ∧ MG G l y1 ws1 F1 L1 mc ms a1 w (pI P) ∧ ∀ x w1, P x w1 → (∃ fs, w1 mo = some (30, .inr (10, fs))) ∧ R32 x ∧ MG G l y2 ws2 F2 L2 0 0 a2 w1 (pI (fun y w2 => y = x ∧ ∃ c9 f9, LI G w2 bk mo o (n + 1) c9 f9 (kx + mc) (zx + ms)))
theorem LI.hbk (h : LI G w bk mo o n c0 f kx zx) : ∃ fs, w bk = some (1, .inr (9, fs)) := by
  obtain ⟨wA, tA, rA, rB, TA, TB, a, lq, oq, ad, capT, capA, capB, vcA, vcB, nw, op, sm, ti, sp, nm, nc, sz, ts, av, fi, wr, rm, rc, A1, A3, A4, A9, A10, A11, A13, A14, A15, A16, A18, A20, A25, A26, A27, A28, A30, A31, ML, OL, MA, hC, hP, hR, hQ, ho, hO⟩ := h
  exact ⟨_, hC.1⟩
theorem LI.hmo (h : LI G w bk mo o n c0 f kx zx) : ∃ fs, w mo = some (30, .inr (10, fs)) := by
  obtain ⟨wA, tA, rA, rB, TA, TB, a, lq, oq, ad, capT, capA, capB, vcA, vcB, nw, op, sm, ti, sp, nm, nc, sz, ts, av, fi, wr, rm, rc, A1, A3, A4, A9, A10, A11, A13, A14, A15, A16, A18, A20, A25, A26, A27, A28, A30, A31, ML, OL, MA, hC, hP, hR, hQ, ho, hO⟩ := h
  exact ⟨_, hR.1⟩
theorem LI.out (h : LI G w bk mo o n c0 f kx zx) : w o = some (7, .inl (gJ G, aJ 1 f)) := by
  obtain ⟨wA, tA, rA, rB, TA, TB, a, lq, oq, ad, capT, capA, capB, vcA, vcB, nw, op, sm, ti, sp, nm, nc, sz, ts, av, fi, wr, rm, rc, A1, A3, A4, A9, A10, A11, A13, A14, A15, A16, A18, A20, A25, A26, A27, A28, A30, A31, ML, OL, MA, hC, hP, hR, hQ, ho, hO⟩ := h
  exact ho
theorem LI.th (h : LI G w bk mo o n c0 f kx zx) : MG G l yX7_thrown wsX7_thrown 1 40 0 0 [.ref mo] w (pI (fun (x : Int) (w' : Wd) => w' = w ∧ x = c0)) := by
  obtain ⟨wA, tA, rA, rB, TA, TB, a, lq, oq, ad, capT, capA, capB, vcA, vcB, nw, op, sm, ti, sp, nm, nc, sz, ts, av, fi, wr, rm, rc, A1, A3, A4, A9, A10, A11, A13, A14, A15, A16, A18, A20, A25, A26, A27, A28, A30, A31, ML, OL, MA, hC, hP, hR, hQ, ho, hO⟩ := h
  exact c_X7_thrown hR
theorem J_wires (hL : LI G w bk mo o n c0 f kx zx) (hn : n < 512) : TwoN G l w bk mo o n kx zx yX6_wires wsX6_wires 1 40 [.ref bk] yX7_wires wsX7_wires 1 40 [.ref mo] := by
  obtain ⟨wA, tA, rA, rB, TA, TB, a, lq, oq, ad, capT, capA, capB, vcA, vcB, nw, op, sm, ti, sp, nm, nc, sz, ts, av, fi, wr, rm, rc, A1, A3, A4, A9, A10, A11, A13, A14, A15, A16, A18, A20, A25, A26, A27, A28, A30, A31, ML, OL, MA, hC, hP, hR, hQ, ho, hO⟩ := hL
  obtain ⟨h1, h2, h3, h4, h5, h6, h7⟩ := id hC
  obtain ⟨p1, p2, p3, p4, p5, p6, p7, p8, p9, p10, p11, p12, p13⟩ := id hP
  have hB := hQ.bd hP
  have e1 := hQ.1.1.1
  have e2 := hQ.1.1.2.1
  have e3 := hQ.1.1.2.2.1
  have hO2 := CO.up (mc := 0) (ms := 0) hO (by omega) (by omega)
  refine ⟨0, 0, _, hO2.fit p10.1 (by omega), c_X6_wires h1 h2, fun x w1 hp => ?_⟩
  obtain ⟨rfl, rfl⟩ := hp
  refine ⟨⟨_, hR.1⟩, ⟨by omega, by omega⟩, MG.imp (c_X7_wires hR) (fun v w2 hv => ?_)⟩
  obtain ⟨y, rfl, rfl, hR2, hF2⟩ := hv
  exact ⟨_, rfl, rfl, _, _, keep hC hP hn hQ ho hF2 hR2 hO2⟩
theorem J_moments (hL : LI G w bk mo o n c0 f kx zx) (hn : n < 512) : TwoN G l w bk mo o n kx zx yX6_moments wsX6_moments 16 640 [.ref bk] yX7_moments wsX7_moments 1 40 [.ref mo] := by
  obtain ⟨wA, tA, rA, rB, TA, TB, a, lq, oq, ad, capT, capA, capB, vcA, vcB, nw, op, sm, ti, sp, nm, nc, sz, ts, av, fi, wr, rm, rc, A1, A3, A4, A9, A10, A11, A13, A14, A15, A16, A18, A20, A25, A26, A27, A28, A30, A31, ML, OL, MA, hC, hP, hR, hQ, ho, hO⟩ := hL
  obtain ⟨h1, h2, h3, h4, h5, h6, h7⟩ := id hC
  obtain ⟨p1, p2, p3, p4, p5, p6, p7, p8, p9, p10, p11, p12, p13⟩ := id hP
  have hB := hQ.bd hP
  have e1 := hQ.1.1.1
  have e2 := hQ.1.1.2.1
  have e3 := hQ.1.1.2.2.1
  have hO2 := CO.up (mc := 0) (ms := 0) hO (by omega) (by omega)
  refine ⟨0, 0, _, hO2.fit p10.1 (by omega), c_X6_moments h1 h4, fun x w1 hp => ?_⟩
  obtain ⟨rfl, rfl⟩ := hp
  refine ⟨⟨_, hR.1⟩, ⟨by omega, by omega⟩, MG.imp (c_X7_moments hR) (fun v w2 hv => ?_)⟩
  obtain ⟨y, rfl, rfl, hR2, hF2⟩ := hv
  exact ⟨_, rfl, e1, _, _, keep hC hP hn hQ ho hF2 hR2 hO2⟩
theorem J_size (hL : LI G w bk mo o n c0 f kx zx) (hn : n < 512) : TwoN G l w bk mo o n kx zx yX6_size wsX6_size 1 40 [.ref bk] yX7_size wsX7_size 1 40 [.ref mo] := by
  obtain ⟨wA, tA, rA, rB, TA, TB, a, lq, oq, ad, capT, capA, capB, vcA, vcB, nw, op, sm, ti, sp, nm, nc, sz, ts, av, fi, wr, rm, rc, A1, A3, A4, A9, A10, A11, A13, A14, A15, A16, A18, A20, A25, A26, A27, A28, A30, A31, ML, OL, MA, hC, hP, hR, hQ, ho, hO⟩ := hL
  obtain ⟨h1, h2, h3, h4, h5, h6, h7⟩ := id hC
  obtain ⟨p1, p2, p3, p4, p5, p6, p7, p8, p9, p10, p11, p12, p13⟩ := id hP
  have hB := hQ.bd hP
  have e1 := hQ.1.1.1
  have e2 := hQ.1.1.2.1
  have e3 := hQ.1.1.2.2.1
  have hO2 := CO.up (mc := 0) (ms := 0) hO (by omega) (by omega)
  refine ⟨0, 0, _, hO2.fit p10.1 (by omega), c_X6_size h1 h4, fun x w1 hp => ?_⟩
  obtain ⟨rfl, rfl⟩ := hp
  refine ⟨⟨_, hR.1⟩, by have := hP.fit; exact ⟨by omega, by omega⟩, MG.imp (c_X7_size hR) (fun v w2 hv => ?_)⟩
  obtain ⟨y, rfl, rfl, hR2, hF2⟩ := hv
  exact ⟨_, rfl, hQ.1.1.2.2.1, _, _, keep hC hP hn hQ ho hF2 hR2 hO2⟩
theorem J_width (hfl : l.stackTraces = false) (hL : LI G w bk mo o n c0 f kx zx) (hn : n < 512) {i9 : Int} (hi : R32 i9) : TwoI G l w bk mo o n kx zx yL_width wsL_width [.ref bk, .int (iI i9), .ref o] yX7_width wsX7_width 2 80 [.ref mo, .int (iI i9)] := by
  obtain ⟨wA, tA, rA, rB, TA, TB, a, lq, oq, ad, capT, capA, capB, vcA, vcB, nw, op, sm, ti, sp, nm, nc, sz, ts, av, fi, wr, rm, rc, A1, A3, A4, A9, A10, A11, A13, A14, A15, A16, A18, A20, A25, A26, A27, A28, A30, A31, ML, OL, MA, hC, hP, hR, hQ, ho, hO⟩ := hL
  obtain ⟨h1, h2, h3, h4, h5, h6, h7⟩ := id hC
  obtain ⟨p1, p2, p3, p4, p5, p6, p7, p8, p9, p10, p11, p12, p13⟩ := id hP
  have hB := hQ.bd hP
  have e1 := hQ.1.1.1
  have e2 := hQ.1.1.2.1
  have e3 := hQ.1.1.2.2.1
  have hG := hQ.1.rg p4 p2.2 hP.fit
  have hO2 := CO.up (mc := 1) (ms := 6) hO (by omega) (by omega)
  refine ⟨1, 6, _, hO2.fit p10.1 (by omega), c_L_width hfl h1 h2 hi ho, fun x w1 hp => ?_⟩
  have hF : Fr (fun t => t = 7) w w1 := by
    rcases hp with ⟨-, rfl, -⟩ | ⟨-, -, -, h⟩
    · exact Fr.rf
    · exact h
  have hR1 := hR.cf hF (fun t q => Or.inl (by omega))
  have hC1 := hC.fr hF p1 (fun t q => by omega)
  have hx : R32 x := by
    rcases hp with ⟨h, -⟩ | ⟨h, -⟩ <;> exact ⟨by omega, by omega⟩
  refine ⟨⟨_, hR1.1⟩, hx, MG.imp (c_X7_width hR1 p2 hi) (fun v w2 hv => ?_)⟩
  obtain ⟨y, rfl, cd, k, hF2, hd⟩ := hv
  refine ⟨y, rfl, ?_⟩
  rcases hp with ⟨rfl, rfl, g⟩ | ⟨rfl, g, ⟨y9, e9, ho9⟩, -⟩
  · rcases hd.symm with ⟨g1, rfl, g2⟩ | ⟨g1, g3, rfl, rfl⟩
    · exact ⟨_, keep hC1 hP hn hQ ho hF2 k hO2, fun q => absurd q (by omega)⟩
    · exfalso
      omega
  · rcases hd.symm with ⟨g1, rfl, g2⟩ | ⟨g1, g3, rfl, rfl⟩
    · exfalso
      omega
    · refine ⟨_, keep hC1 hP hn hQ ho9 hF2 k hO2, fun _ => ?_⟩
      rw [upI_eq]
      exact congrArg nrm e9
theorem J_byteAt (hfl : l.stackTraces = false) (hL : LI G w bk mo o n c0 f kx zx) (hn : n < 512) {i9 : Int} (hi : R32 i9) : TwoI G l w bk mo o n kx zx yL_byteAt wsL_byteAt [.ref bk, .int (iI i9), .ref o] yX7_byteAt wsX7_byteAt 1 40 [.ref mo, .int (iI i9)] := by
  obtain ⟨wA, tA, rA, rB, TA, TB, a, lq, oq, ad, capT, capA, capB, vcA, vcB, nw, op, sm, ti, sp, nm, nc, sz, ts, av, fi, wr, rm, rc, A1, A3, A4, A9, A10, A11, A13, A14, A15, A16, A18, A20, A25, A26, A27, A28, A30, A31, ML, OL, MA, hC, hP, hR, hQ, ho, hO⟩ := hL
  obtain ⟨h1, h2, h3, h4, h5, h6, h7⟩ := id hC
  obtain ⟨p1, p2, p3, p4, p5, p6, p7, p8, p9, p10, p11, p12, p13⟩ := id hP
  have hB := hQ.bd hP
  have e1 := hQ.1.1.1
  have e2 := hQ.1.1.2.1
  have e3 := hQ.1.1.2.2.1
  have hG := hQ.1.rg p4 p2.2 hP.fit
  have hO2 := CO.up (mc := 1) (ms := 6) hO (by omega) (by omega)
  refine ⟨1, 6, _, hO2.fit p10.1 (by omega), c_L_byteAt hfl h1 h4 hi ho, fun x w1 hp => ?_⟩
  have hF : Fr (fun t => t = 7) w w1 := by
    rcases hp with ⟨-, rfl, -⟩ | ⟨-, -, -, h⟩
    · exact Fr.rf
    · exact h
  have hR1 := hR.cf hF (fun t q => Or.inl (by omega))
  have hC1 := hC.fr hF p1 (fun t q => by omega)
  have hx : R32 x := by
    rcases hp with ⟨h, -⟩ | ⟨h, -⟩ <;> exact ⟨by omega, by omega⟩
  refine ⟨⟨_, hR1.1⟩, hx, MG.imp (c_X7_byteAt hR1 (by rw [hQ.1.1.2.2.1]; exact ⟨by omega, hP.fit⟩) hi) (fun v w2 hv => ?_)⟩
  obtain ⟨y, rfl, cd, k, hF2, hd⟩ := hv
  refine ⟨y, rfl, ?_⟩
  rcases hp with ⟨rfl, rfl, g⟩ | ⟨rfl, g, ⟨y9, e9, ho9⟩, -⟩
  · rcases hd.symm with ⟨g1, rfl, g2⟩ | ⟨g1, g3, rfl, rfl⟩
    · exact ⟨_, keep hC1 hP hn hQ ho hF2 k hO2, fun q => absurd q (by omega)⟩
    · exfalso
      omega
  · rcases hd.symm with ⟨g1, rfl, g2⟩ | ⟨g1, g3, rfl, rfl⟩
    · exfalso
      omega
    · refine ⟨_, keep hC1 hP hn hQ ho9 hF2 k hO2, fun _ => ?_⟩
      rw [upI_eq]
      rw [e9 _ hQ.1.2.2.2.2.2.2.2.2]
theorem J_moment (hfl : l.stackTraces = false) (hL : LI G w bk mo o n c0 f kx zx) (hn : n < 512) {i9 e9 : Int} (hi : R32 i9) (he : R32 e9) : TwoL G l w bk mo o n kx zx yL_moment wsL_moment [.ref bk, .int (iI i9), .int (iI e9), .ref o] yX7_moment wsX7_moment 2 80 [.ref mo, .int (iI i9), .int (iI e9)] := by
  obtain ⟨wA, tA, rA, rB, TA, TB, a, lq, oq, ad, capT, capA, capB, vcA, vcB, nw, op, sm, ti, sp, nm, nc, sz, ts, av, fi, wr, rm, rc, A1, A3, A4, A9, A10, A11, A13, A14, A15, A16, A18, A20, A25, A26, A27, A28, A30, A31, ML, OL, MA, hC, hP, hR, hQ, ho, hO⟩ := hL
  obtain ⟨h1, h2, h3, h4, h5, h6, h7⟩ := id hC
  obtain ⟨p1, p2, p3, p4, p5, p6, p7, p8, p9, p10, p11, p12, p13⟩ := id hP
  have hB := hQ.bd hP
  have e1 := hQ.1.1.1
  have e2 := hQ.1.1.2.1
  have e3 := hQ.1.1.2.2.1
  have hG := hQ.1.rg p4 p2.2 hP.fit
  have hO2 := CO.up (mc := 1) (ms := 6) hO (by omega) (by omega)
  refine ⟨1, 6, _, hO2.fit p10.1 (by omega), c_L_moment hfl h1 h4 hi he ho, fun x w1 hp => ?_⟩
  have hF : Fr (fun t => t = 7) w w1 := by
    rcases hp with ⟨-, rfl, -⟩ | ⟨-, rfl, -⟩ | ⟨-, -, -, h⟩
    · exact Fr.rf
    · exact Fr.rf
    · exact h
  have hR1 := hR.cf hF (fun t q => Or.inl (by omega))
  have hC1 := hC.fr hF p1 (fun t q => by omega)
  have hx : R32 x := by
    rcases hp with ⟨h, -⟩ | ⟨h, -⟩ | ⟨h, -⟩ <;> exact ⟨by omega, by omega⟩
  refine ⟨⟨_, hR1.1⟩, hx, MG.imp (c_X7_moment hR1 ⟨by omega, by omega⟩ ⟨by omega, by omega⟩ (fun i x y => by have := (hG.2.2 i x y).2.2; exact ⟨by omega, by omega⟩) (fun k x y => by have := hG.1 k x y; exact ⟨by omega, by omega⟩) hi he) (fun v w2 hv => ?_)⟩
  obtain ⟨y, rfl, hF2, hd⟩ := hv
  refine ⟨y, rfl, ?_⟩
  rcases hp with ⟨rfl, rfl, g⟩ | ⟨rfl, rfl, g⟩ | ⟨rfl, g, ⟨y9, ev, ho9⟩, -⟩
  · rcases hd with ⟨k, g1⟩ | ⟨k, g1, g2⟩ | ⟨k, g1, g2⟩
    · exact ⟨_, keep hC1 hP hn hQ ho hF2 k hO2, fun q => absurd q (by omega)⟩
    · exfalso
      omega
    · exfalso
      omega
  · rcases hd with ⟨k, g1⟩ | ⟨k, g1, g2⟩ | ⟨k, g1, g2⟩
    · exfalso
      omega
    · exact ⟨_, keep hC1 hP hn hQ ho hF2 k hO2, fun q => absurd q (by omega)⟩
    · exfalso
      omega
  · rcases hd with ⟨k, g1⟩ | ⟨k, g1, g2⟩ | ⟨k, g1, g2⟩
    · exfalso
      omega
    · exfalso
      omega
    · refine ⟨_, keep hC1 hP hn hQ ho9 hF2 k hO2, fun _ => ?_⟩
      rw [upI_eq]
      have hf := (hQ.1.flat i9 g.1 g.2).1
      have hc := (hQ.1.cnt g.1 g.2).1
      rw [hf.1, hf.2.1, hf.2.2, hc] at g2
      congr 1
      omega
theorem J_changed (hfl : l.stackTraces = false) (hL : LI G w bk mo o n c0 f kx zx) (hn : n < 512) {i9 e9 a9 : Int} (hi : R32 i9) (he : R32 e9) (ha : R32 a9) : TwoI G l w bk mo o n kx zx yL_changed wsL_changed [.ref bk, .int (iI i9), .int (iI e9), .int (iI a9), .ref o] yX7_changed wsX7_changed 2 80 [.ref mo, .int (iI i9), .int (iI e9), .int (iI a9)] := by
  obtain ⟨wA, tA, rA, rB, TA, TB, a, lq, oq, ad, capT, capA, capB, vcA, vcB, nw, op, sm, ti, sp, nm, nc, sz, ts, av, fi, wr, rm, rc, A1, A3, A4, A9, A10, A11, A13, A14, A15, A16, A18, A20, A25, A26, A27, A28, A30, A31, ML, OL, MA, hC, hP, hR, hQ, ho, hO⟩ := hL
  obtain ⟨h1, h2, h3, h4, h5, h6, h7⟩ := id hC
  obtain ⟨p1, p2, p3, p4, p5, p6, p7, p8, p9, p10, p11, p12, p13⟩ := id hP
  have hB := hQ.bd hP
  have e1 := hQ.1.1.1
  have e2 := hQ.1.1.2.1
  have e3 := hQ.1.1.2.2.1
  have hG := hQ.1.rg p4 p2.2 hP.fit
  have hO2 := CO.up (mc := 1) (ms := 6) hO (by omega) (by omega)
  refine ⟨1, 6, _, hO2.fit p10.1 (by omega), c_L_changed hfl h1 h4 hi he ha ho, fun x w1 hp => ?_⟩
  have hF : Fr (fun t => t = 7) w w1 := by
    rcases hp with ⟨-, rfl, -⟩ | ⟨-, rfl, -⟩ | ⟨-, -, -, h⟩
    · exact Fr.rf
    · exact Fr.rf
    · exact h
  have hR1 := hR.cf hF (fun t q => Or.inl (by omega))
  have hC1 := hC.fr hF p1 (fun t q => by omega)
  have hx : R32 x := by
    rcases hp with ⟨h, -⟩ | ⟨h, -⟩ | ⟨h, -⟩ <;> exact ⟨by omega, by omega⟩
  refine ⟨⟨_, hR1.1⟩, hx, MG.imp (c_X7_changed (k0 := oF ML i9) hR1 ⟨by omega, by omega⟩ ⟨by omega, by omega⟩ (fun k x y => by have := hG.1 k x y; exact ⟨by omega, by omega⟩) hG.2.1 (fun x y => by
    have hc := hQ.1.cnt x (by omega)
    have hx := hQ.1.ix (i := i9) x (by omega)
    have h0 := oF_ge (ML := ML) (i := i9)
    refine ⟨h0, by omega, fun k u v q => ?_, fun q => ?_⟩
    · have := (hx k u (by omega)).mp q
      omega
    · exact (hx _ h0 (by omega)).mpr ⟨Int.le_refl _, by omega⟩) hi he ha) (fun v w2 hv => ?_)⟩
  obtain ⟨y, rfl, hF2, hd⟩ := hv
  refine ⟨y, rfl, ?_⟩
  have hcn : 0 ≤ i9 → i9 < nm → cnt A13 i9 nc.toNat = ((mI ML i9).2.2.length : Int) := fun x y => (hQ.1.cnt x (by omega)).1
  rcases hp with ⟨rfl, rfl, g⟩ | ⟨rfl, rfl, g⟩ | ⟨rfl, g, ⟨y9, ev, ho9⟩, -⟩
  · rcases hd with ⟨k, g1⟩ | ⟨k, g1, g2, g3⟩ | ⟨k, g1, g2, g3⟩
    · exact ⟨_, keep hC1 hP hn hQ ho hF2 k hO2, fun q => absurd q (by omega)⟩
    · exfalso
      omega
    · exfalso
      omega
  · rcases hd with ⟨k, g1⟩ | ⟨k, g1, g2, g3⟩ | ⟨k, g1, g2, g3⟩
    · exfalso
      omega
    · exact ⟨_, keep hC1 hP hn hQ ho hF2 k hO2, fun q => absurd q (by omega)⟩
    · exfalso
      omega
  · rcases hd with ⟨k, g1⟩ | ⟨k, g1, g2, g3⟩ | ⟨k, g1, g2, g3⟩
    · exfalso
      omega
    · exfalso
      omega
    · refine ⟨_, keep hC1 hP hn hQ ho9 hF2 k hO2, fun _ => ?_⟩
      rw [upI_eq]
      have hf := (hQ.1.flat i9 g.1.1 g.1.2).2 e9 g.2.1 g.2.2
      rw [hf.2.1, hf.2.2.1, hf.2.2.2] at g3
      congr 1
      omega
theorem J_at (hfl : l.stackTraces = false) (hL : LI G w bk mo o n c0 f kx zx) (hn : n < 512) {t9 s9 i9 e9 : Int} (ht : R64 t9) (hs : R64 s9) (hi : R32 i9) (he : R32 e9) : TwoI G l w bk mo o n kx zx yL_at wsL_at [.ref bk, .long (lI t9), .long (lI s9), .int (iI i9), .int (iI e9), .ref o] yX7_at wsX7_at 2 80 [.ref mo, .long (lI t9), .long (lI s9), .int (iI i9), .int (iI e9)] := by
  obtain ⟨wA, tA, rA, rB, TA, TB, a, lq, oq, ad, capT, capA, capB, vcA, vcB, nw, op, sm, ti, sp, nm, nc, sz, ts, av, fi, wr, rm, rc, A1, A3, A4, A9, A10, A11, A13, A14, A15, A16, A18, A20, A25, A26, A27, A28, A30, A31, ML, OL, MA, hC, hP, hR, hQ, ho, hO⟩ := hL
  obtain ⟨h1, h2, h3, h4, h5, h6, h7⟩ := id hC
  obtain ⟨p1, p2, p3, p4, p5, p6, p7, p8, p9, p10, p11, p12, p13⟩ := id hP
  have hB := hQ.bd hP
  have e1 := hQ.1.1.1
  have e2 := hQ.1.1.2.1
  have e3 := hQ.1.1.2.2.1
  have hG := hQ.1.rg p4 p2.2 hP.fit
  have hO2 := CO.up (mc := 1) (ms := 6) hO (by omega) (by omega)
  refine ⟨1, 6, _, hO2.fit p10.1 (by omega), c_L_at hfl h1 h2 p3 h4 p4 p2 ht hs hi he ho, fun x w1 hp => ?_⟩
  have hF : Fr (fun t => t = 7) w w1 := by
    rcases hp with ⟨-, rfl, -⟩ | ⟨-, -, -, h⟩
    · exact Fr.rf
    · exact h
  have hR1 := hR.cf hF (fun t q => Or.inl (by omega))
  have hC1 := hC.fr hF p1 (fun t q => by omega)
  have hx : R32 x := by
    rcases hp with ⟨h, -⟩ | ⟨h, -⟩ <;> exact ⟨by omega, by omega⟩
  refine ⟨⟨_, hR1.1⟩, hx, MG.imp (c_X7_at hR1 p2 p3 ⟨by omega, by omega⟩ ⟨by omega, by omega⟩ hG.1 hG.2.1 (fun i x y => by have := (hG.2.2 i x y).1; exact ⟨by omega, by omega⟩) (fun i x y => by have := (hG.2.2 i x y).2.1; exact ⟨by omega, by omega⟩) ht hs hi he) (fun v w2 hv => ?_)⟩
  obtain ⟨y, rfl, hF2, hd⟩ := hv
  refine ⟨y, rfl, ?_⟩
  rcases hp with ⟨rfl, rfl, g⟩ | ⟨rfl, g, ⟨y9, ev, ho9⟩, -⟩
  · rcases hd with ⟨k, g1⟩ | ⟨k, g1, g2⟩
    · exact ⟨_, keep hC1 hP hn hQ ho hF2 k hO2, fun q => absurd q (by omega)⟩
    · exfalso
      omega
  · rcases hd with ⟨k, g1⟩ | ⟨k, g1, g2⟩
    · exfalso
      omega
    · refine ⟨_, keep hC1 hP hn hQ ho9 hF2 k hO2, fun _ => ?_⟩
      rw [upI_eq]
      rw [ev, g2, hQ.1.at p2.2 p4]
theorem J_next (hfl : l.stackTraces = false) (hL : LI G w bk mo o n c0 f kx zx) (hn : n < 512) {i9 e9 : Int} (hi : R32 i9) (he : R32 e9) : TwoI G l w bk mo o n kx zx yL_next wsL_next [.ref bk, .int (iI i9), .int (iI e9), .ref o] yX7_next wsX7_next 2 80 [.ref mo, .int (iI i9), .int (iI e9)] := by
  obtain ⟨wA, tA, rA, rB, TA, TB, a, lq, oq, ad, capT, capA, capB, vcA, vcB, nw, op, sm, ti, sp, nm, nc, sz, ts, av, fi, wr, rm, rc, A1, A3, A4, A9, A10, A11, A13, A14, A15, A16, A18, A20, A25, A26, A27, A28, A30, A31, ML, OL, MA, hC, hP, hR, hQ, ho, hO⟩ := hL
  obtain ⟨h1, h2, h3, h4, h5, h6, h7⟩ := id hC
  obtain ⟨p1, p2, p3, p4, p5, p6, p7, p8, p9, p10, p11, p12, p13⟩ := id hP
  have hB := hQ.bd hP
  have e1 := hQ.1.1.1
  have e2 := hQ.1.1.2.1
  have e3 := hQ.1.1.2.2.1
  have hG := hQ.1.rg p4 p2.2 hP.fit
  have hO2 := CO.up (mc := 1) (ms := 6) hO (by omega) (by omega)
  refine ⟨1, 6, _, hO2.fit p10.1 (by omega), c_L_next hfl h1 h2 h4 p4 p2 hi he ho, fun x w1 hp => ?_⟩
  have hF : Fr (fun t => t = 7) w w1 := by
    rcases hp with ⟨-, rfl, -⟩ | ⟨-, rfl, -⟩ | ⟨-, -, -, h⟩
    · exact Fr.rf
    · exact Fr.rf
    · exact h
  have hR1 := hR.cf hF (fun t q => Or.inl (by omega))
  have hC1 := hC.fr hF p1 (fun t q => by omega)
  have hx : R32 x := by
    rcases hp with ⟨h, -⟩ | ⟨h, -⟩ | ⟨h, -⟩ <;> exact ⟨by omega, by omega⟩
  refine ⟨⟨_, hR1.1⟩, hx, MG.imp (c_X7_next hR1 p2 ⟨by omega, by omega⟩ ⟨by omega, by omega⟩ hG.1 hG.2.1 hi he) (fun v w2 hv => ?_)⟩
  obtain ⟨y, rfl, hF2, hd⟩ := hv
  refine ⟨y, rfl, ?_⟩
  rcases hp with ⟨rfl, rfl, g⟩ | ⟨rfl, rfl, g⟩ | ⟨rfl, g, ⟨y9, ev, ho9⟩, -⟩
  · rcases hd with ⟨k, g1⟩ | ⟨k, g1, g2⟩ | ⟨k, g1, g2, g3⟩
    · exact ⟨_, keep hC1 hP hn hQ ho hF2 k hO2, fun q => absurd q (by omega)⟩
    · exfalso
      omega
    · exfalso
      omega
  · rcases hd with ⟨k, g1⟩ | ⟨k, g1, g2⟩ | ⟨k, g1, g2, g3⟩
    · exfalso
      omega
    · exact ⟨_, keep hC1 hP hn hQ ho hF2 k hO2, fun q => absurd q (by omega)⟩
    · exfalso
      omega
  · rcases hd with ⟨k, g1⟩ | ⟨k, g1, g2⟩ | ⟨k, g1, g2, g3⟩
    · exfalso
      omega
    · exfalso
      omega
    · refine ⟨_, keep hC1 hP hn hQ ho9 hF2 k hO2, fun _ => ?_⟩
      rw [upI_eq]
      rw [g3, hQ.1.nx g.2 ev]
end LJS
