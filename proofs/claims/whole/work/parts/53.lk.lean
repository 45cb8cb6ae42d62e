section LKS
variable {G : GG} {l : Launch} {w w1 w2 : Wd} {S : Nat → Prop} {bk mo o mc ms kx zx : Nat} {n : Int} {f : Int → Int} {wA tA rA rB TA TB a : Nat} {lq oq : Option Nat} {ad : Nat → Nat} {capT capA capB vcA vcB : Int} {c0 nw op sm ti sp nm nc sz ts av fi wr rm rc : Int} {A1 A3 A4 A9 A10 A11 A13 A14 A15 A16 A18 A20 A25 A26 A27 A28 A30 A31 : Int → Int} {ML : ML3} {OL : ML2} {MA : Int → Nat}
theorem RP.l0 (h : RP lq oq ML OL nw op sm nm nc sz A3 A4 A9 A10 A11 A13 A14 A15 A16 A18 A25) : lq = none ↔ sm = 0 := by
  rcases h.2.2.2.1 with ⟨a, b⟩ | ⟨a, b⟩
  · exact ⟨fun _ => b, fun _ => a⟩
  · exact ⟨fun q => absurd q a, fun q => by omega⟩
theorem RP.o0 (h : RP lq oq ML OL nw op sm nm nc sz A3 A4 A9 A10 A11 A13 A14 A15 A16 A18 A25) : oq = none ↔ op = 0 := by
  rcases h.2.2.1 with ⟨a, b⟩ | ⟨a, b⟩
  · exact ⟨fun _ => b, fun _ => a⟩
  · exact ⟨fun q => absurd q a, fun q => by omega⟩
theorem BP.uq {x y : Int} {P : Prop} (h : BP x P) (h2 : BP y P) : x = y := by
  rcases h with ⟨a, b⟩ | ⟨a, b⟩ <;> rcases h2 with ⟨c, d⟩ | ⟨c, d⟩
  · omega
  · exact absurd b d
  · exact absurd d b
  · omega
theorem J_wire (hfl : l.stackTraces = false) (hL : LI G w bk mo o n c0 f kx zx) (hn : n < 512) {i9 : Int} (hi : R32 i9) : TwoI G l w bk mo o n kx zx yL_wire wsL_wire [.ref bk, .int (iI i9), .ref o] yX7_wire wsX7_wire 1 40 [.ref mo, .int (iI i9)] := by
  obtain ⟨wA, tA, rA, rB, TA, TB, a, lq, oq, ad, capT, capA, capB, vcA, vcB, nw, op, sm, ti, sp, nm, nc, sz, ts, av, fi, wr, rm, rc, A1, A3, A4, A9, A10, A11, A13, A14, A15, A16, A18, A20, A25, A26, A27, A28, A30, A31, ML, OL, MA, hC, hP, hR, hQ, ho, hO⟩ := hL
  obtain ⟨h1, h2, h3, h4, h5, h6, h7⟩ := id hC
  obtain ⟨p1, p2, p3, p4, p5, p6, p7, p8, p9, p10, p11, p12, p13⟩ := id hP
  obtain ⟨b3, b4, o3, o4, eA3, edr, bnm, bnc, bop, bsm⟩ := hQ.bd hP
  have e1 := hQ.1.1.1
  have e2 := hQ.1.1.2.1
  have e3 := hQ.1.1.2.2.1
  have hT : (TA = 10 ∧ TB = 20) ∨ (TA = 20 ∧ TB = 10) := p1
  have hl0 : lq = none ↔ sm = 0 := hQ.l0
  have ho0 : oq = none ↔ op = 0 := hQ.o0
  have n0 := numC_0 ML
  have hO2 := CO.up (mc := 1) (ms := 6) hO (by omega) (by omega)
  have hOn : lq = none → ML = [] ∧ OL = [] ∧ oq = none := fun q => by
    obtain ⟨g1, g2⟩ := p7 q
    exact ⟨g2, Classical.byContradiction (fun g => h7.on g g1), g1⟩
  refine ⟨1, 6, _, hO2.fit p10.1 (by omega), c_L_wire hfl h1 h2 hi ho, fun x w1 hp => ?_⟩
  have hF : Fr (fun t => t = 2 ∨ t = 3 ∨ t = 7) w w1 := by
    rcases hp with ⟨-, rfl, -⟩ | ⟨-, rfl, -⟩ | ⟨-, -, -, -, -, -, -, h⟩
    · exact Fr.rf
    · exact Fr.rf
    · exact h
  have hR1 := hR.cf hF (fun t q => Or.inl (by omega))
  have hx : R32 x := by
    rcases hp with ⟨h, -⟩ | ⟨h, -⟩ | ⟨h, -⟩ <;> exact ⟨by omega, by omega⟩
  refine ⟨⟨_, hR1.1⟩, hx, MG.imp (c_X7_wire hR1 p2 bsm (fun q a b => o3 q (by omega)) (fun q a b => o4 q (by omega)) hi) (fun v w2 hv => ?_)⟩
  obtain ⟨y, rfl, hF2, hd⟩ := hv
  refine ⟨y, rfl, ?_⟩
  rcases hp with ⟨rfl, rfl, g⟩ | ⟨rfl, rfl, g1, g⟩ | ⟨rfl, g1, g2, g3, g4, g5, g6, -⟩
  · rcases hd with ⟨k, k1⟩ | ⟨k, k1, k2⟩ | ⟨k, k1, k2, k3, k4⟩
    · exact ⟨_, keep hC hP hn hQ ho hF2 k hO2, fun q => absurd q (by omega)⟩
    · exfalso
      omega
    · exfalso
      omega
  · rw [ne_eq, hl0] at g
    rcases hd with ⟨k, k1⟩ | ⟨k, k1, k2⟩ | ⟨k, k1, k2, k3, k4⟩
    · exfalso
      omega
    · exact ⟨_, keep hC hP hn hQ ho hF2 k hO2, fun q => absurd q (by omega)⟩
    · exfalso
      omega
  · have g3' := hl0.mp g3
    rcases hd with ⟨k, k1⟩ | ⟨k, k1, k2⟩ | ⟨k, k1, k2, k3, k4⟩
    · exfalso
      omega
    · exfalso
      omega
    · obtain ⟨m1, m2, m3⟩ := hOn g3
      have hC1 : CI G w1 bk wA tA rA rB TA TB a lq oq (nw + 1) ts capT capA capB vcA vcB ti sp (upI A1 nw i9) A20 ML OL MA := ⟨g5, g4, h3.fr hF (by omega) (by omega), h4.fr hF (fun t x y => by omega) (fun i x y t z u => by omega), h5.fr hF (fun t x y => by omega), h6.fr hF (by omega), h7.fr hF (by omega) (by omega) (by omega) (by omega)⟩
      have hw2 : ∀ i, 0 ≤ i → i < nw + 1 → 1 ≤ upI A1 nw i9 i ∧ upI A1 nw i9 i ≤ 64 := fun i a b => by
        by_cases q : i = nw
        · rw [q, upI_eq]; exact g1
        · rw [upI_ne q]; exact p3 i a (by omega)
      have hP1 : CP TA TB lq oq (nw + 1) ts ti sp (upI A1 nw i9) A20 ML OL (n + 1) := ⟨p1, ⟨by omega, by omega⟩, hw2, by rw [m1]; trivial, by rw [m2]; trivial, p6, p7, p8, p9, ⟨by omega, by omega⟩, p11, ⟨by omega, by omega⟩, ⟨by omega, by omega⟩⟩
      exact ⟨_, LI.mk (hC1.fr hF2 p1 mT_S) hP1 k ⟨hQ.1, hQ.2.1, hQ.2.2.1, hQ.2.2.2.1, fun q hq => hQ.2.2.2.2 q (by omega)⟩ (out_fr g6 hF2 mT_7) hO2, fun _ => by rw [upI_eq, k1]⟩
theorem J_feed (hfl : l.stackTraces = false) (hL : LI G w bk mo o n c0 f kx zx) (hn : n < 512) {i9 : Int} (hi : R32 i9) : TwoI G l w bk mo o n kx zx yL_feed wsL_feed [.ref bk, .int (iI i9), .ref o] yX7_feed wsX7_feed 1 40 [.ref mo, .int (iI i9)] := by
  obtain ⟨wA, tA, rA, rB, TA, TB, a, lq, oq, ad, capT, capA, capB, vcA, vcB, nw, op, sm, ti, sp, nm, nc, sz, ts, av, fi, wr, rm, rc, A1, A3, A4, A9, A10, A11, A13, A14, A15, A16, A18, A20, A25, A26, A27, A28, A30, A31, ML, OL, MA, hC, hP, hR, hQ, ho, hO⟩ := hL
  obtain ⟨h1, h2, h3, h4, h5, h6, h7⟩ := id hC
  obtain ⟨p1, p2, p3, p4, p5, p6, p7, p8, p9, p10, p11, p12, p13⟩ := id hP
  obtain ⟨b3, b4, o3, o4, eA3, edr, bnm, bnc, bop, bsm⟩ := hQ.bd hP
  have e1 := hQ.1.1.1
  have e2 := hQ.1.1.2.1
  have e3 := hQ.1.1.2.2.1
  have hT : (TA = 10 ∧ TB = 20) ∨ (TA = 20 ∧ TB = 10) := p1
  have hl0 : lq = none ↔ sm = 0 := hQ.l0
  have ho0 : oq = none ↔ op = 0 := hQ.o0
  have n0 := numC_0 ML
  have hrg := h3.rg
  obtain ⟨capT2, hc⟩ := Cap.ex (c := capT) (l := ts + 4) (by omega)
  have hge := hc.ge (by omega)
  have htop := hc.top (by omega)
  obtain ⟨q1, q2, q3, q4⟩ := id hO
  have hO2 : CO (ts + 4) capT2 capA capB vcA vcB (n + 1) (kx + (1 + (capT2 - capT).toNat)) (zx + (6 + (2 * (capT2 - capT)).toNat)) := ⟨by omega, by omega, ⟨by omega, by omega, q3.2.2⟩, q4⟩
  refine ⟨1 + (capT2 - capT).toNat, 6 + (2 * (capT2 - capT)).toNat, _, hO2.fit (by omega) (by omega), c_L_feed hfl h1 h3 hi hc (by omega) ho, fun x w1 hp => ?_⟩
  rcases hp with ⟨-, -, h⟩ | ⟨rfl, g1, g2, g3, g4, hF⟩
  · exfalso
    omega
  have hR1 := hR.cf hF (fun t q => Or.inl (by omega))
  refine ⟨⟨_, hR1.1⟩, ⟨by omega, by omega⟩, MG.imp (c_X7_feed hR1 ⟨by omega, by omega⟩ hi) (fun v w2 hv => ?_)⟩
  obtain ⟨y, rfl, hF2, hd⟩ := hv
  refine ⟨y, rfl, ?_⟩
  rcases hd with ⟨k, -⟩ | ⟨k1, k2, k⟩
  · exfalso
    omega
  · have hC1 : CI G w1 bk wA tA rA rB TA TB a lq oq nw (ts + 4) capT2 capA capB vcA vcB ti sp A1 (putL A20 ts (fbL i9 4)) ML OL MA := ⟨g2, h2.fr hF (by omega) (by omega), g3, h4.fr hF (fun t x y => by omega) (fun i x y t z u => by omega), h5.fr hF (fun t x y => by omega), h6.fr hF (by omega), h7.fr hF (by omega) (by omega) (by omega) (by omega)⟩
    have hv := g3.val
    have hP1 : CP TA TB lq oq nw (ts + 4) ti sp A1 (putL A20 ts (fbL i9 4)) ML OL (n + 1) := ⟨p1, p2, p3, p4, p5, p6, p7, p8, p9, ⟨by omega, by omega⟩, fun q a b => by have := hv q a b; omega, ⟨by omega, by omega⟩, ⟨by omega, by omega⟩⟩
    exact ⟨_, LI.mk (hC1.fr hF2 p1 mT_S) hP1 k hQ (out_fr g4 hF2 mT_7) hO2, fun _ => by rw [upI_eq, k2]⟩
theorem J_end (hfl : l.stackTraces = false) (hL : LI G w bk mo o n c0 f kx zx) (hn : n < 512) {i9 : Int} (hi : R32 i9) : TwoV G l w bk mo o n kx zx yL_end wsL_end [.ref bk, .int (iI i9)] yX7_end wsX7_end 1 40 [.ref mo, .int (iI i9)] := by
  obtain ⟨wA, tA, rA, rB, TA, TB, a, lq, oq, ad, capT, capA, capB, vcA, vcB, nw, op, sm, ti, sp, nm, nc, sz, ts, av, fi, wr, rm, rc, A1, A3, A4, A9, A10, A11, A13, A14, A15, A16, A18, A20, A25, A26, A27, A28, A30, A31, ML, OL, MA, hC, hP, hR, hQ, ho, hO⟩ := hL
  obtain ⟨h1, h2, h3, h4, h5, h6, h7⟩ := id hC
  obtain ⟨p1, p2, p3, p4, p5, p6, p7, p8, p9, p10, p11, p12, p13⟩ := id hP
  obtain ⟨b3, b4, o3, o4, eA3, edr, bnm, bnc, bop, bsm⟩ := hQ.bd hP
  have e1 := hQ.1.1.1
  have e2 := hQ.1.1.2.1
  have e3 := hQ.1.1.2.2.1
  have hT : (TA = 10 ∧ TB = 20) ∨ (TA = 20 ∧ TB = 10) := p1
  have hl0 : lq = none ↔ sm = 0 := hQ.l0
  have ho0 : oq = none ↔ op = 0 := hQ.o0
  have n0 := numC_0 ML
  have hO2 := CO.up (mc := 1) (ms := 6) hO (by omega) (by omega)
  refine ⟨1, 6, _, hO2.fit p10.1 (by omega), c_L_end (f := f) (o := o) hfl h1 h3 hi, fun x w1 hp => ?_⟩
  have hF : Fr (fun t => t = 4 ∨ t = 5 ∨ t = 0) w w1 := by
    rcases hp with ⟨-, rfl, -⟩ | ⟨-, -, -, -, h⟩
    · exact Fr.rf
    · exact h
  have hR1 := hR.cf hF (fun t q => Or.inl (by omega))
  have hx : R32 x := by
    rcases hp with ⟨h, -⟩ | ⟨h, -⟩ <;> exact ⟨by omega, by omega⟩
  refine ⟨⟨_, hR1.1⟩, hx, MG.imp (c_X7_end hR1 ⟨by omega, by omega⟩ hi) (fun v w2 hv => ?_)⟩
  obtain ⟨rfl, cd, ts', k, hF2, hd⟩ := hv
  refine ⟨rfl, ?_⟩
  rcases hp with ⟨rfl, rfl, g⟩ | ⟨rfl, g, g1, g2, -⟩
  · rcases hd with ⟨k1, k2, k3, k4⟩ | ⟨k1, rfl, rfl⟩
    · exfalso
      omega
    · exact ⟨_, keep hC hP hn hQ ho hF2 k hO2⟩
  · rcases hd with ⟨k1, k2, rfl, rfl⟩ | ⟨k1, k2, k3⟩
    · have hC1 : CI G w1 bk wA tA rA rB TA TB a lq oq nw ts' capT capA capB vcA vcB ti sp A1 A20 ML OL MA := ⟨g1, h2.fr hF (by omega) (by omega), g2, h4.fr hF (fun t x y => by omega) (fun i x y t z u => by omega), h5.fr hF (fun t x y => by omega), h6.fr hF (by omega), h7.fr hF (by omega) (by omega) (by omega) (by omega)⟩
      have hP1 : CP TA TB lq oq nw ts' ti sp A1 A20 ML OL (n + 1) := ⟨p1, p2, p3, p4, p5, p6, p7, p8, p9, ⟨by omega, by omega⟩, fun q a b => p11 q a (by omega), ⟨by omega, by omega⟩, ⟨by omega, by omega⟩⟩
      obtain ⟨q1, q2, q3, q4⟩ := hO2
      have hO3 : CO ts' capT capA capB vcA vcB (n + 1) (kx + 1) (zx + 6) := ⟨by omega, by omega, q3, q4⟩
      exact ⟨_, LI.mk (hC1.fr hF2 p1 mT_S) hP1 k hQ (out_fr (out_fr ho hF (by omega)) hF2 mT_7) hO3⟩
    · exfalso
      omega
theorem J_change (hfl : l.stackTraces = false) (hL : LI G w bk mo o n c0 f kx zx) (hn : n < 512) {i9 e9 v9 : Int} (hi : R32 i9) (he : R32 e9) (hv9 : R32 v9) : TwoB G l w bk mo o n kx zx yL_change wsL_change [.ref bk, .int (iI i9), .int (iI e9), .int (iI v9), .ref o] yX7_change wsX7_change 2 80 [.ref mo, .int (iI i9), .int (iI e9), .int (iI v9)] := by
  obtain ⟨wA, tA, rA, rB, TA, TB, a, lq, oq, ad, capT, capA, capB, vcA, vcB, nw, op, sm, ti, sp, nm, nc, sz, ts, av, fi, wr, rm, rc, A1, A3, A4, A9, A10, A11, A13, A14, A15, A16, A18, A20, A25, A26, A27, A28, A30, A31, ML, OL, MA, hC, hP, hR, hQ, ho, hO⟩ := hL
  obtain ⟨h1, h2, h3, h4, h5, h6, h7⟩ := id hC
  obtain ⟨p1, p2, p3, p4, p5, p6, p7, p8, p9, p10, p11, p12, p13⟩ := id hP
  obtain ⟨b3, b4, o3, o4, eA3, edr, bnm, bnc, bop, bsm⟩ := hQ.bd hP
  have e1 := hQ.1.1.1
  have e2 := hQ.1.1.2.1
  have e3 := hQ.1.1.2.2.1
  have hT : (TA = 10 ∧ TB = 20) ∨ (TA = 20 ∧ TB = 10) := p1
  have hl0 : lq = none ↔ sm = 0 := hQ.l0
  have ho0 : oq = none ↔ op = 0 := hQ.o0
  have n0 := numC_0 ML
  have hO2 := CO.up (mc := 2) (ms := OL.length + OL.length / 2 + 14) hO (by omega) (by omega)
  refine ⟨2, OL.length + OL.length / 2 + 14, _, hO2.fit p10.1 (by omega), c_L_change hfl h1 h2 p3 hi he hv9 h4 p4 p2 h7 p5 (by omega) (by omega) ⟨Nat.le_refl _, Nat.le_refl _⟩ ho, fun x w1 hp => ?_⟩
  have hF : Fr (fun t => t = 101 + 4 * a ∨ t = 102 + 4 * a ∨ t = 103 + 4 * a ∨ t = 0 ∨ t = 7) w w1 := by
    rcases hp with ⟨-, rfl, -⟩ | ⟨-, rfl, -⟩ | ⟨-, rfl, -⟩ | ⟨-, -, -, -, OL2, b9, -, -, -, -, -, -, -, h⟩
    · exact Fr.rf
    · exact Fr.rf
    · exact Fr.rf
    · exact h
  have hR1 := hR.cf hF (fun t q => by omega)
  have hx : R32 x := by
    rcases hp with ⟨h, -⟩ | ⟨h, -⟩ | ⟨h, -⟩ | ⟨h, -⟩ <;> exact ⟨by omega, by omega⟩
  refine ⟨⟨_, hR1.1⟩, hx, MG.imp (c_X7_change hR1 p2 p3 b4 bop hi he hv9) (fun v w2 hv => ?_)⟩
  obtain ⟨y, rfl, hF2, hd⟩ := hv
  refine ⟨y, rfl, ?_⟩
  have hy : y = 0 ∨ y = 1 := by
    rcases hd with ⟨-, h, -⟩ | ⟨-, h, -⟩ | ⟨-, h, -⟩ | ⟨-, h, -⟩
    · exact Or.inl h
    · exact Or.inl h
    · exact Or.inl h
    · exact h.r
  refine ⟨hy, ?_⟩
  rcases hp with ⟨rfl, rfl, g⟩ | ⟨rfl, rfl, g, g1⟩ | ⟨rfl, rfl, g, g1, g2⟩ | ⟨rfl, g2, g, g1, OL2, b9, a1, a2, a3, a4, a5, a6, a7, -⟩
  · rcases hd with ⟨k, -, k1⟩ | ⟨k, -, k1, k2⟩ | ⟨k, -, k1, k2, k3⟩ | ⟨k, -, k1, k2, k3⟩
    · exact ⟨_, keep hC hP hn hQ ho hF2 k hO2, fun q => absurd q (by omega)⟩
    · exact absurd k1 g
    · exact absurd k1 g
    · exact absurd k1 g
  · rcases hd with ⟨k, -, k1⟩ | ⟨k, -, k1, k2⟩ | ⟨k, -, k1, k2, k3⟩ | ⟨k, -, k1, k2, k3⟩
    · exact absurd g k1
    · exact ⟨_, keep hC hP hn hQ ho hF2 k hO2, fun q => absurd q (by omega)⟩
    · exact absurd k2 g1
    · exact absurd k2 g1
  · rcases hd with ⟨k, -, k1⟩ | ⟨k, -, k1, k2⟩ | ⟨k, -, k1, k2, k3⟩ | ⟨k, -, k1, k2, k3⟩
    · exact absurd g k1
    · exact absurd g1 k2
    · exact ⟨_, keep hC hP hn hQ ho hF2 k hO2, fun q => absurd q (by omega)⟩
    · exact absurd (ho0.mp g2) k3
  · have hne : ¬ oq = none := fun q => by rw [q] at g2; cases g2
    rcases hd with ⟨k, -, k1⟩ | ⟨k, -, k1, k2⟩ | ⟨k, -, k1, k2, k3⟩ | ⟨k, kb, k1, k2, k3⟩
    · exact absurd g k1
    · exact absurd g1 k2
    · exact absurd (ho0.mpr k3) hne
    · have hMA : ∀ i : Int, 0 ≤ i → i < ML.length → MA i ≠ a := by
        rcases h7 with ⟨q, -⟩ | ⟨-, -, h⟩
        · exact absurd q hne
        · exact h
      have hC1 : CI G w1 bk wA tA rA rB TA TB a lq oq nw ts capT capA capB vcA vcB ti sp A1 A20 ML OL2 MA := ⟨a6, h2.fr hF (by omega) (by omega), h3.fr hF (by omega) (by omega), h4.fr hF (fun t x y => by omega) (fun i x y t z u => by have := hMA i x y; omega), h5.fr hF (fun t x y => by omega), h6.fr hF (by omega), Or.inr ⟨g2, a5, hMA⟩⟩
      have hP1 : CP TA TB lq oq nw ts ti sp A1 A20 ML OL2 (n + 1) := ⟨p1, p2, p3, p4, a1, p6, p7, p8, p9, ⟨by omega, by omega⟩, p11, ⟨by omega, by omega⟩, ⟨by omega, by omega⟩⟩
      have hbb : BP b9 (¬ A4 (64 * i9 + e9) = v9) := by rw [hQ.2.1, eA3]; exact a4
      exact ⟨_, LI.mk (hC1.fr hF2 p1 mT_S) hP1 k ⟨hQ.1, by rw [hQ.2.1, eA3]; exact a3.symm, hQ.2.2.1, hQ.2.2.2.1, hQ.2.2.2.2⟩ (out_fr a7 hF2 mT_7) hO2, fun _ => by rw [upI_eq]; exact hbb.uq kb⟩
theorem J_load (hL : LI G w bk mo o n c0 f kx zx) (hn : n < 512) : TwoN G l w bk mo o n kx zx yX6_load wsX6_load 16 640 [.ref bk] yX7_load wsX7_load 5 200 [.ref mo] := by
  obtain ⟨wA, tA, rA, rB, TA, TB, a, lq, oq, ad, capT, capA, capB, vcA, vcB, nw, op, sm, ti, sp, nm, nc, sz, ts, av, fi, wr, rm, rc, A1, A3, A4, A9, A10, A11, A13, A14, A15, A16, A18, A20, A25, A26, A27, A28, A30, A31, ML, OL, MA, hC, hP, hR, hQ, ho, hO⟩ := hL
  obtain ⟨h1, h2, h3, h4, h5, h6, h7⟩ := id hC
  obtain ⟨p1, p2, p3, p4, p5, p6, p7, p8, p9, p10, p11, p12, p13⟩ := id hP
  obtain ⟨b3, b4, o3, o4, eA3, edr, bnm, bnc, bop, bsm⟩ := hQ.bd hP
  have e1 := hQ.1.1.1
  have e2 := hQ.1.1.2.1
  have e3 := hQ.1.1.2.2.1
  have hT : (TA = 10 ∧ TB = 20) ∨ (TA = 20 ∧ TB = 10) := p1
  have hl0 : lq = none ↔ sm = 0 := hQ.l0
  have ho0 : oq = none ↔ op = 0 := hQ.o0
  have n0 := numC_0 ML
  obtain ⟨PP, hPP⟩ : ∃ z, z = pro A20 ts nw A1 0 0 (-1) (fun _ => 0) := ⟨_, rfl⟩
  have hok := pro_ok2 (T := A20) (N := ts) p3 (ts - 0).toNat 0 0 (-1) (fun _ => 0) (Nat.le_refl _) (by omega) p10.1 ⟨by omega, by omega⟩ ⟨by omega, by omega⟩
  have hr32 := pro_r32 (T := A20) p3 p10.1 (by omega)
  rw [← hPP] at hok hr32
  have n1 := numC_0 PP.2
  have hnum := okL_num hok.1
  have hfit : ((encAll 0 (-1) (fun _ => 0) PP.2).length : Int) ≤ 60000 := by
    have := encAll_le (nw := nw) (A1 := A1) p2.2 hok.1 (Int.le_refl _) (Int.le_refl _) (by omega)
    omega
  obtain ⟨q1, q2, q3, q4⟩ := id hO
  obtain ⟨capF, hcF⟩ := Cap.ex (c := capB) (l := ((encAll 0 (-1) (fun _ => 0) PP.2).length : Int)) (by omega)
  have hge := hcF.ge (by omega)
  have htop := hcF.top (by omega)
  have hgv := gva_b p2.2 hok.1 (c := vcB) ⟨q4.2.2.1, q4.2.2.2⟩
  have hx6 := c_X6_load h1 h2 p3 p2 h3 ⟨p10.1, by omega⟩ h5 (by omega) (by rw [← hPP]; exact hcF) (l := l) (by omega)
  rw [← hPP] at hx6
  obtain ⟨mc, hmc⟩ : ∃ z, z = (1 + (3 * ts + 8 + (capF - capB) + (gva vcB PP.2 - vcB)).toNat) := ⟨_, rfl⟩
  obtain ⟨ms, hms⟩ : ∃ z, z = (5 + (1600 * ts + 4000 + 2 * (capF - capB) + 2 * (gva vcB PP.2 - vcB)).toNat) := ⟨_, rfl⟩
  rw [← hmc, ← hms] at hx6
  have hO2 : CO 0 capT capA capF vcA (gva vcB PP.2) (n + 1) (kx + mc) (zx + ms) := ⟨by omega, by omega, ⟨q3.1, q3.2.1, q3.2.2.1, q3.2.2.2.1, by omega, by omega⟩, ⟨q4.1, q4.2.1, by omega, by omega⟩⟩
  refine ⟨mc, ms, _, hO2.fit (by omega) (by omega), hx6, fun x w1 hp => ?_⟩
  obtain ⟨rfl, g1, g2, hF⟩ := hp
  have hF1 := hF.lo
  have hR1 := hR.cf hF1 (fun t q => by omega)
  have hx7 := c_X7_load (l := l) hR1 p2 p3 ⟨p10.1, by omega⟩ p11 o3 o4 hQ.2.2.2.2
  rw [← hPP] at hx7
  refine ⟨⟨_, hR1.1⟩, hr32, MG.imp hx7 (fun v w2 hv => ?_)⟩
  obtain ⟨y, rfl, hF2, hy, av2, fi2, wr2, rm2, rc2, B25, B26, B27, B28, B30, B31, hd, hz⟩ := hv
  refine ⟨y, rfl, hy, ?_⟩
  have ho1 := out_fr ho hF1 (by omega)
  rcases g2 with ⟨c1, g3, M2, g4⟩ | ⟨c1, M2, g3, g4, -, -⟩
  · rcases hd with ⟨c2, k⟩ | ⟨c2, k⟩
    · have hC1 : CI G w1 bk wA tA rA rB TA TB a lq oq nw 0 capT capA capF vcA (gva vcB PP.2) ti sp A1 A20 ML OL MA := ⟨g3, h2.fr hF1 (by omega) (by omega), g1, h4.frO hF (by omega) (fun t x y => by omega) (fun t x => by omega), g4.sp, h6.frO hF (by omega), h7.frO hF (fun t x => by omega)⟩
      have hP1 : CP TA TB lq oq nw 0 ti sp A1 A20 ML OL (n + 1) := ⟨p1, p2, p3, p4, p5, p6, p7, p8, p9, ⟨by omega, by omega⟩, fun q a b => absurd b (by omega), ⟨by omega, by omega⟩, ⟨by omega, by omega⟩⟩
      exact ⟨_, _, LI.mk (hC1.fr hF2 p1 mT_S) hP1 k ⟨hQ.1, hQ.2.1, hQ.2.2.1, hQ.2.2.2.1, hz⟩ (out_fr ho1 hF2 mT_7) hO2⟩
    · exact absurd c2 c1
  · rcases hd with ⟨c2, k⟩ | ⟨c2, k⟩
    · exact absurd c1 c2
    · obtain ⟨lq2, hlq⟩ : ∃ z, z = (if (PP.2.length : Int) = 0 then none else some (M2 (PP.2.length - 1))) := ⟨_, rfl⟩
      rw [← hlq] at g3
      obtain ⟨ti2, hti⟩ : ∃ z, z = lasT ti PP.2 := ⟨_, rfl⟩
      obtain ⟨sp2, hsp⟩ : ∃ z, z = lasS sp PP.2 := ⟨_, rfl⟩
      have p1' : TT TB TA := by
        show (TB = 10 ∧ TA = 20) ∨ (TB = 20 ∧ TA = 10)
        omega
      have hl9 := okL_las hok.1 ⟨by omega, by omega, by omega, by omega⟩
      have hX : (PP.2 = [] ∧ lq2 = none ∧ ti2 = ti ∧ sp2 = sp) ∨ (PP.2 ≠ [] ∧ lq2 = some (M2 (PP.2.length - 1)) ∧ ti2 = lasT 0 PP.2 ∧ sp2 = lasS (-1) PP.2) := by
        rcases snocX PP.2 with e | ⟨K, q, e⟩
        · refine Or.inl ⟨e, ?_, ?_, ?_⟩
          · rw [hlq, e]; rfl
          · rw [hti, e]; rfl
          · rw [hsp, e]; rfl
        · have hne : PP.2 ≠ [] := fun z => by rw [z] at e; exact absurd (congrArg List.length e) (by rw [List.length_append]; show ¬ 0 = K.length + 1; omega)
          refine Or.inr ⟨hne, ?_, ?_, ?_⟩
          · rw [hlq, if_neg]
            intro z
            exact hne (List.length_eq_zero_iff.mp (by omega))
          · rw [hti, e, lasT_snoc, lasT_snoc]
          · rw [hsp, e, lasS_snoc, lasS_snoc]
      have hla : LatAt w1 lq2 (M2 (PP.2.length - 1)) ti2 sp2 := by
        rcases hX with ⟨-, e, -, -⟩ | ⟨hne, e, e4, e5⟩
        · exact Or.inl e
        · obtain ⟨u1, u2, hu⟩ := g4.last (by have := List.length_pos_iff.mpr hne; omega)
          exact Or.inr ⟨e, u1, u2, by rw [e4, e5]; exact hu⟩
      have hC1 : CI G w1 bk wA tA rB rA TB TA (M2 (PP.2.length - 1)) lq2 none nw 0 capT capF capA (gva vcB PP.2) vcA ti2 sp2 A1 A20 PP.2 [] M2 := ⟨g3, h2.fr hF1 (by omega) (by omega), g1, g4, (h4.frO hF (by omega) (fun t x y => by omega) (fun t x => by omega)).sp, hla, Or.inl ⟨rfl, rfl⟩⟩
      have hr : 0 ≤ ti2 ∧ ti2 < 1152921504606846976 ∧ 0 ≤ sp2 ∧ sp2 < 1152921504606846976 := by
        rcases hX with ⟨-, -, e4, e5⟩ | ⟨hne, -, e4, e5⟩
        · rw [e4, e5]; exact p6
        · rcases snocX PP.2 with e | ⟨K, q, e⟩
          · exact absurd e hne
          · have hm := (okL_mem hok.1 q (by rw [e]; exact List.mem_append_right _ List.mem_cons_self)).1
            rw [e4, e5, e, lasT_snoc, lasS_snoc]
            exact hm
      have hP1 : CP TB TA lq2 none nw 0 ti2 sp2 A1 A20 PP.2 [] (n + 1) := by
        refine ⟨p1', p2, p3, hok.1, trivial, hr, fun z => ⟨rfl, ?_⟩, fun z => absurd rfl z, fun z => ?_, ⟨by omega, by omega⟩, fun q a b => absurd b (by omega), ⟨by omega, by show numC PP.2 + ((0 : Nat) : Int) ≤ _; omega⟩, ⟨by omega, by omega⟩⟩
        · rcases hX with ⟨e, -⟩ | ⟨-, e, -⟩
          · exact e
          · rw [e] at z; cases z
        · rcases hX with ⟨-, e, -⟩ | ⟨-, -, e4, e5⟩
          · exact absurd e z
          · exact Or.inr ⟨e4.symm, by omega⟩
      have hO3 : CO 0 capT capF capA (gva vcB PP.2) vcA (n + 1) (kx + mc) (zx + ms) := by
        obtain ⟨u1, u2, u3, u4⟩ := hO2
        exact ⟨by omega, by omega, ⟨u3.1, u3.2.1, u3.2.2.2.2.1, u3.2.2.2.2.2, u3.2.2.1, u3.2.2.2.1⟩, ⟨u4.2.2.1, u4.2.2.2, u4.1, u4.2.1⟩⟩
      rw [← hti, ← hsp] at k
      refine ⟨_, _, LI.mk (hC1.fr hF2 p1' mT_S) hP1 k ⟨⟨⟨rfl, rfl, rfl, rfl⟩, holds_put _ _ _, holds_put _ _ _, holds_put _ _ _, holds_put _ _ _, holds_put _ _ _, holds_put _ _ _, holds_put _ _ _, holds_put _ _ _⟩, rfl, Or.inl ⟨rfl, rfl⟩, ?_, hz⟩ (out_fr ho1 hF2 mT_7) hO3⟩
      rcases hX with ⟨e, e2, -⟩ | ⟨hne, e2, -⟩
      · exact Or.inl ⟨e2, by rw [e]; rfl⟩
      · exact Or.inr ⟨by rw [e2]; exact fun q => (nomatch q), if_pos (by have := List.length_pos_iff.mpr hne; omega)⟩
end LKS
