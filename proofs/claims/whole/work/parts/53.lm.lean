section LKS
variable {G : GG} {l : Launch} {w w1 w2 : Wd} {S : Nat → Prop} {bk mo o mc ms kx zx : Nat} {n : Int} {f : Int → Int} {wA tA rA rB TA TB a : Nat} {lq oq : Option Nat} {ad : Nat → Nat} {capT capA capB vcA vcB : Int} {c0 nw op sm ti sp nm nc sz ts av fi wr rm rc : Int} {A1 A3 A4 A9 A10 A11 A13 A14 A15 A16 A18 A20 A25 A26 A27 A28 A30 A31 : Int → Int} {ML : ML3} {OL : ML2} {MA : Int → Nat}
theorem finA {nm2 nc2 sz2 : Int} {B3 B9 B10 B11 B13 B14 B15 B16 B18 : Int → Int} (hQ : RP lq oq ML OL nw op sm nm nc sz A3 A4 A9 A10 A11 A13 A14 A15 A16 A18 A25) (hP : CP TA TB lq oq nw ts ti sp A1 A20 ML OL n) (hf : FinR ti sp nw nm nc sz A3 A4 A9 A10 A11 A13 A14 A15 A16 A18 nm2 nc2 sz2 B3 B9 B10 B11 B13 B14 B15 B16 B18) : RelM (addM ML ti sp OL) nm2 nc2 sz2 B3 B9 B10 B11 B13 B14 B15 B16 B18 ∧ A4 = B3 := by
  obtain ⟨b3, b4, o3, o4, eA3, edr, bnm, bnc, bop, bsm⟩ := hQ.bd hP
  have h5 : okC nw A1 (-1) A3 OL := by rw [eA3]; exact hP.2.2.2.2.1
  rcases RelM.fin hQ.1 hQ.2.1 hP.2.1.1 h5 hf with ⟨e, h⟩ | ⟨e, h⟩
  · subst e
    rw [addM_0]
    exact ⟨h, by rw [hQ.2.1, h.1.2.2.2]; exact eA3⟩
  · rw [addM_N e]
    exact ⟨h, by rw [hQ.2.1, h.1.2.2.2, sall_snoc, ← eA3]⟩
theorem fin_0 (hQ : RP lq oq ML OL nw op sm nm nc sz A3 A4 A9 A10 A11 A13 A14 A15 A16 A18 A25) (hP : CP TA TB lq oq nw ts ti sp A1 A20 ML OL n) (e : OL = []) : RelM (addM ML ti sp OL) nm nc sz A3 A9 A10 A11 A13 A14 A15 A16 A18 ∧ A4 = A3 := by
  subst e
  rw [addM_0]
  exact ⟨hQ.1, hQ.2.1⟩
/-- what finishing a moment asks of the reference's numbers -/
theorem fin_pre (hQ : RP lq oq ML OL nw op sm nm nc sz A3 A4 A9 A10 A11 A13 A14 A15 A16 A18 A25) (hP : CP TA TB lq oq nw ts ti sp A1 A20 ML OL n) (ho : oq ≠ none) : (0 ≤ (if nm = 0 then 0 else A9 (nm - 1)) ∧ (if nm = 0 then 0 else A9 (nm - 1)) ≤ ti) ∧ (-1 ≤ (if nm = 0 then -1 else A10 (nm - 1)) ∧ (if nm = 0 then -1 else A10 (nm - 1)) < 1152921504606846976 ∧ (ti = (if nm = 0 then 0 else A9 (nm - 1)) → (if nm = 0 then -1 else A10 (nm - 1)) < sp)) ∧ (0 ≤ nc ∧ nc + (drF A4 A3 (64 * nw).toNat 0).length ≤ 30001) ∧ (0 ≤ sz ∧ sz + (encM ti sp (if nm = 0 then 0 else A9 (nm - 1)) (if nm = 0 then -1 else A10 (nm - 1)) A4 (drF A4 A3 (64 * nw).toNat 0)).length ≤ 60000) := by
  obtain ⟨b3, b4, o3, o4, eA3, edr, bnm, bnc, bop, bsm⟩ := hQ.bd hP
  obtain ⟨p1, p2, p3, p4, p5, p6, p7, p8, p9, p10, p11, p12, p13⟩ := id hP
  have hl := hQ.1.las
  rw [hl.1, hl.2, edr]
  have hp8 := p8 ho
  have hlas := okL_las p4 ⟨by omega, by omega, by omega, by omega⟩
  have n0 := numC_0 ML
  have e3 := hQ.1.1.2.2.1
  have hA := encAll_le (nw := nw) (A1 := A1) p2.2 p4 (Int.le_refl _) (Int.le_refl _) (by omega)
  have h5 : okC nw A1 (-1) A3 OL := by rw [eA3]; exact p5
  have hM := encM_len (t := ti) (s := sp) (lt := lasT 0 ML) (ls := lasS (-1) ML) h5 p2.2 ⟨p6.1, p6.2.1⟩ p6.2.2 hlas.1 hlas.2.2.1 (by omega)
  rw [← hQ.2.1] at hM
  refine ⟨⟨hlas.1, by omega⟩, ⟨hlas.2.2.1, hlas.2.2.2, fun q => by omega⟩, ⟨bnc.1, by rw [List.length_map]; omega⟩, ⟨by omega, by omega⟩⟩
theorem ref_open {t9 s9 : Int} (hR : RefAt G mo ad w c0 nw op sm ti sp nm nc sz ts av fi wr rm rc A1 A3 A4 A9 A10 A11 A13 A14 A15 A16 A18 A20 A25 A26 A27 A28 A30 A31) (hQ : RP lq oq ML OL nw op sm nm nc sz A3 A4 A9 A10 A11 A13 A14 A15 A16 A18 A25) (hP : CP TA TB lq oq nw ts ti sp A1 A20 ML OL n) (hon : OL ≠ [] → oq ≠ none) (ht9 : R64 t9) (hs9 : R64 s9) : MG G l yX7_open wsX7_open 4 160 0 0 [.ref mo, .long (lI t9), .long (lI s9)] w (pV (fun (w' : Wd) => Fr mT w w' ∧ ((¬ ((0 ≤ t9 ∧ t9 < 1152921504606846976 ∧ 0 ≤ s9 ∧ s9 < 1152921504606846976) ∧ (sm = 0 ∨ ti < t9 ∨ (t9 = ti ∧ sp < s9))) ∧ RefAt G mo ad w' 1 nw op sm ti sp nm nc sz ts av fi wr rm rc A1 A3 A4 A9 A10 A11 A13 A14 A15 A16 A18 A20 A25 A26 A27 A28 A30 A31) ∨ (((0 ≤ t9 ∧ t9 < 1152921504606846976 ∧ 0 ≤ s9 ∧ s9 < 1152921504606846976) ∧ (sm = 0 ∨ ti < t9 ∨ (t9 = ti ∧ sp < s9))) ∧ ∃ (nm2 nc2 sz2 : Int) (B3 B9 B10 B11 B13 B14 B15 B16 B18 : Int → Int), RefAt G mo ad w' 0 nw 1 1 t9 s9 nm2 nc2 sz2 ts av fi wr rm rc A1 B3 A4 B9 B10 B11 B13 B14 B15 B16 B18 A20 A25 A26 A27 A28 A30 A31 ∧ RelM (addM ML ti sp OL) nm2 nc2 sz2 B3 B9 B10 B11 B13 B14 B15 B16 B18 ∧ A4 = B3)))) := by
  obtain ⟨b3, b4, o3, o4, eA3, edr, bnm, bnc, bop, bsm⟩ := id (hQ.bd hP)
  have p6 := hP.2.2.2.2.2.1
  by_cases hop : op = 0
  · refine MG.imp (c_X7_open0 hR ⟨by omega, by omega⟩ ⟨by omega, by omega⟩ hop bsm ht9 hs9) (fun v w2 hv => ?_)
    obtain ⟨rfl, hF, hd⟩ := hv
    refine ⟨rfl, hF, ?_⟩
    rcases hd with h | ⟨h1, h2⟩
    · exact Or.inl h
    · exact Or.inr ⟨h1, _, _, _, _, _, _, _, _, _, _, _, _, h2, fin_0 hQ hP (Classical.byContradiction (fun q => hon q (hQ.o0.mpr hop)))⟩
  · obtain ⟨f1, f2, f3, f4⟩ := fin_pre hQ hP (fun q => hop (hQ.o0.mp q))
    refine MG.imp (c_X7_open hR hP.2.1 b4 b3 ⟨by omega, by omega⟩ ⟨p6.1, p6.2.1⟩ p6.2.2 f1 f2 f3 f4 bop bsm (fun q => absurd q hop) ht9 hs9) (fun v w2 hv => ?_)
    obtain ⟨rfl, hF, hd⟩ := hv
    refine ⟨rfl, hF, ?_⟩
    rcases hd with h | ⟨h1, nm2, nc2, sz2, B3, B9, B10, B11, B13, B14, B15, B16, B18, h2, h3⟩
    · exact Or.inl h
    · exact Or.inr ⟨h1, _, _, _, _, _, _, _, _, _, _, _, _, h2, finA hQ hP h3⟩
theorem ref_close (hR : RefAt G mo ad w c0 nw op sm ti sp nm nc sz ts av fi wr rm rc A1 A3 A4 A9 A10 A11 A13 A14 A15 A16 A18 A20 A25 A26 A27 A28 A30 A31) (hQ : RP lq oq ML OL nw op sm nm nc sz A3 A4 A9 A10 A11 A13 A14 A15 A16 A18 A25) (hP : CP TA TB lq oq nw ts ti sp A1 A20 ML OL n) : MG G l yX7_close wsX7_close 4 160 0 0 [.ref mo] w (pI (fun (x : Int) (w' : Wd) => Fr mT w w' ∧ ((oq = none ∧ x = -1 ∧ RefAt G mo ad w' 0 nw op sm ti sp nm nc sz ts av fi wr rm rc A1 A3 A4 A9 A10 A11 A13 A14 A15 A16 A18 A20 A25 A26 A27 A28 A30 A31) ∨ (oq ≠ none ∧ x = OL.length ∧ ∃ (nm2 nc2 sz2 : Int) (B3 B9 B10 B11 B13 B14 B15 B16 B18 : Int → Int), RefAt G mo ad w' 0 nw 0 sm ti sp nm2 nc2 sz2 ts av fi wr rm rc A1 B3 A4 B9 B10 B11 B13 B14 B15 B16 B18 A20 A25 A26 A27 A28 A30 A31 ∧ RelM (addM ML ti sp OL) nm2 nc2 sz2 B3 B9 B10 B11 B13 B14 B15 B16 B18 ∧ A4 = B3)))) := by
  obtain ⟨b3, b4, o3, o4, eA3, edr, bnm, bnc, bop, bsm⟩ := id (hQ.bd hP)
  have p6 := hP.2.2.2.2.2.1
  by_cases hop : op = 0
  · refine MG.imp (c_X7_close0 hR hop) (fun v w2 hv => ?_)
    obtain ⟨y, rfl, hF, h1, h2⟩ := hv
    exact ⟨y, rfl, hF, Or.inl ⟨hQ.o0.mpr hop, h1, h2⟩⟩
  · have hoq : oq ≠ none := fun q => hop (hQ.o0.mp q)
    obtain ⟨f1, f2, f3, f4⟩ := fin_pre hQ hP hoq
    refine MG.imp (c_X7_close hR hP.2.1 b4 b3 ⟨by omega, by omega⟩ ⟨p6.1, p6.2.1⟩ p6.2.2 f1 f2 f3 f4 bop bsm) (fun v w2 hv => ?_)
    obtain ⟨y, rfl, hF, hd⟩ := hv
    refine ⟨y, rfl, hF, ?_⟩
    rcases hd with ⟨h, -⟩ | ⟨-, h1, nm2, nc2, sz2, B3, B9, B10, B11, B13, B14, B15, B16, B18, h2, h3⟩
    · exact absurd h hop
    · exact Or.inr ⟨hoq, by rw [h1, edr, List.length_map], _, _, _, _, _, _, _, _, _, _, _, _, h2, finA hQ hP h3⟩
theorem J_open (hfl : l.stackTraces = false) (hL : LI G w bk mo o n c0 f kx zx) (hn : n < 512) {t9 s9 : Int} (ht9 : R64 t9) (hs9 : R64 s9) : TwoV G l w bk mo o n kx zx yL_open wsL_open [.ref bk, .long (lI t9), .long (lI s9)] yX7_open wsX7_open 4 160 [.ref mo, .long (lI t9), .long (lI s9)] := by
  obtain ⟨wA, tA, rA, rB, TA, TB, a, lq, oq, ad, capT, capA, capB, vcA, vcB, nw, op, sm, ti, sp, nm, nc, sz, ts, av, fi, wr, rm, rc, A1, A3, A4, A9, A10, A11, A13, A14, A15, A16, A18, A20, A25, A26, A27, A28, A30, A31, ML, OL, MA, hC, hP, hR, hQ, ho, hO⟩ := hL
  obtain ⟨h1, h2, h3, h4, h5, h6, h7⟩ := id hC
  obtain ⟨p1, p2, p3, p4, p5, p6, p7, p8, p9, p10, p11, p12, p13⟩ := id hP
  obtain ⟨b3, b4, o3, o4, eA3, edr, bnm, bnc, bop, bsm⟩ := hQ.bd hP
  have e1 := hQ.1.1.1
  have e2 := hQ.1.1.2.1
  have e3 := hQ.1.1.2.2.1
  have hT : (TA = 10 ∧ TB = 20) ∨ (TA = 20 ∧ TB = 10) := p1
  have hl0 : lq = none ↔ sm = 0 := hQ.l0
  have ho0 : oq = none ↔ op = 0 := hQ.o0
  have n0 := numC_0 ML
  obtain ⟨q1, q2, q3, q4⟩ := id hO
  have hon := h7.on
  have hfit := fitM hP hon
  obtain ⟨capA2, hc⟩ := Cap.ex (c := capA) (l := ((encAll 0 (-1) (fun _ => 0) (addM ML ti sp OL)).length : Int)) (by omega)
  have hge := hc.ge (by omega)
  have htop := hc.top (by omega)
  have hgv := gvc_b (L := OL) (c := vcA) ⟨q4.1, q4.2.1⟩ (okC_pl p5 p2.2)
  have hlt : OL ≠ [] → lasT 0 ML < ti ∨ (lasT 0 ML = ti ∧ lasS (-1) ML < sp) := fun g => p8 (hon g)
  have hAn := addM_n (ML := ML) (ti := ti) (sp := sp) (OL := OL)
  have hAl := addM_l (ML := ML) (ti := ti) (sp := sp) (OL := OL)
  have hx6 : ∀ (mc ms : Nat), (3 ≤ mc ∧ 13 ≤ ms ∧ (((0 ≤ t9 ∧ t9 < 1152921504606846976 ∧ 0 ≤ s9 ∧ s9 < 1152921504606846976) ∧ (lq = none ∨ ti < t9 ∨ (t9 = ti ∧ sp < s9))) → 3 + ((capA2 - capA).toNat + 1 + (gvc vcA OL - vcA).toNat) ≤ mc ∧ 13 + ((2 * (capA2 - capA)).toNat + ((ML.length : Int) + (ML.length : Int) / 2 + 10).toNat + (2 * (gvc vcA OL - vcA)).toNat) ≤ ms)) → _ := fun mc ms hcs => c_L_open (mc9 := mc) (ms9 := ms) (l := l) (f := f) (o := o) hfl h1 h6 (fun q => (p7 q).1) h7 h4 p4 p2 (by omega) p6 hlt p5 hc (by omega) hfit.2 (by omega) ht9 hs9 hcs
  by_cases hcnd : ((0 ≤ t9 ∧ t9 < 1152921504606846976 ∧ 0 ≤ s9 ∧ s9 < 1152921504606846976) ∧ (lq = none ∨ ti < t9 ∨ (t9 = ti ∧ sp < s9)))
  · obtain ⟨mc, hmc⟩ : ∃ z, z = (3 + ((capA2 - capA).toNat + 1 + (gvc vcA OL - vcA).toNat)) := ⟨_, rfl⟩
    obtain ⟨ms, hms⟩ : ∃ z, z = (13 + ((2 * (capA2 - capA)).toNat + ((ML.length : Int) + (ML.length : Int) / 2 + 10).toNat + (2 * (gvc vcA OL - vcA)).toNat)) := ⟨_, rfl⟩
    have hx6 := hx6 mc ms ⟨by omega, by omega, fun _ => ⟨by omega, by omega⟩⟩
    have hO2 : CO ts capT capA2 capB (gvc vcA OL) vcB (n + 1) (kx + mc) (zx + ms) := ⟨by omega, by omega, ⟨q3.1, q3.2.1, by omega, by omega, q3.2.2.2.2⟩, ⟨by omega, by omega, q4.2.2⟩⟩
    refine ⟨mc, ms, _, hO2.fit p10.1 (by omega), hx6, fun x w1 hp => ?_⟩
    rcases hp with ⟨-, g, -⟩ | ⟨rfl, g, a9, MA2, ha9, g1, g2, g3, g4, hF⟩
    · exact absurd hcnd g
    · have g' := g
      rw [hl0] at g'
      have hR1 := hR.cf hF (fun t q => by omega)
      refine ⟨⟨_, hR1.1⟩, ⟨by omega, by omega⟩, MG.imp (ref_open hR1 hQ hP hon ht9 hs9) (fun v w2 hv => ?_)⟩
      obtain ⟨rfl, hF2, hd⟩ := hv
      rcases hd with ⟨k1, -⟩ | ⟨-, nm2, nc2, sz2, B3, B9, B10, B11, B13, B14, B15, B16, B18, k, k1, k2⟩
      · exact absurd g' k1
      · have hC1 : CI G w1 bk wA tA rA rB TA TB a9 (some a9) (some a9) nw ts capT capA2 capB (gvc vcA OL) vcB t9 s9 A1 A20 (addM ML ti sp OL) [] MA2 := ⟨g1, h2.fr hF (by omega) (by omega), h3.fr hF (by omega) (by omega), g4, h5.fr hF (fun t x y => by omega), by
          obtain ⟨lr, L, u1, -⟩ := g2
          exact Or.inr ⟨rfl, _, _, u1⟩, Or.inr ⟨rfl, g2, g3⟩⟩
        have hlast : lasT 0 (addM ML ti sp OL) < t9 ∨ (lasT 0 (addM ML ti sp OL) = t9 ∧ lasS (-1) (addM ML ti sp OL) < s9) := by
          rcases hAl with ⟨u0, u1, u2⟩ | ⟨u0, u1, u2⟩
          · rw [u1, u2]
            by_cases hlq : lq = none
            · rw [(p7 hlq).2]
              show (0 : Int) < t9 ∨ ((0 : Int) = t9 ∧ (-1 : Int) < s9)
              omega
            · have := p9 hlq
              rcases g.2 with h | h
              · exact absurd h hlq
              · omega
          · rw [u1, u2]
            have hlq : ¬ lq = none := fun q => hon u0 (p7 q).1
            rcases g.2 with h | h
            · exact absurd h hlq
            · omega
        have hP1 : CP TA TB (some a9) (some a9) nw ts t9 s9 A1 A20 (addM ML ti sp OL) [] (n + 1) := ⟨p1, p2, p3, hfit.1, trivial, g.1, fun q => (nomatch q), fun _ => hlast, fun _ => by omega, ⟨by omega, by omega⟩, p11, ⟨by omega, by show numC (addM ML ti sp OL) + ((0 : Nat) : Int) ≤ _; omega⟩, ⟨by omega, by omega⟩⟩
        exact ⟨rfl, _, LI.mk (hC1.fr hF2 p1 mT_S) hP1 k ⟨k1, k2, Or.inr ⟨fun q => (nomatch q), rfl⟩, Or.inr ⟨fun q => (nomatch q), rfl⟩, hQ.2.2.2.2⟩ (out_fr (out_fr ho hF (by omega)) hF2 mT_7) hO2⟩
  · have hx6 := hx6 3 13 ⟨Nat.le_refl _, Nat.le_refl _, fun g => absurd g hcnd⟩
    have hO4 := CO.up (mc := 3) (ms := 13) hO (by omega) (by omega)
    refine ⟨3, 13, _, hO4.fit p10.1 (by omega), hx6, fun x w1 hp => ?_⟩
    rcases hp with ⟨rfl, g, hw⟩ | ⟨-, g, -⟩
    · rw [hl0] at g
      have hX : CI G w1 bk wA tA rA rB TA TB a lq oq nw ts capT capA capB vcA vcB ti sp A1 A20 ML OL MA ∧ RefAt G mo ad w1 c0 nw op sm ti sp nm nc sz ts av fi wr rm rc A1 A3 A4 A9 A10 A11 A13 A14 A15 A16 A18 A20 A25 A26 A27 A28 A30 A31 ∧ w1 o = some (7, .inl (gJ G, aJ 1 f)) := by
        rcases hw with rfl | ⟨a9, ha9, hF⟩
        · exact ⟨hC, hR, ho⟩
        · exact ⟨hC.frN hF ha9 p1, hR.cf hF (fun t q => by omega), out_fr ho hF (by omega)⟩
      obtain ⟨hC1, hR1, ho1⟩ := hX
      refine ⟨⟨_, hR1.1⟩, ⟨by omega, by omega⟩, MG.imp (ref_open hR1 hQ hP hon ht9 hs9) (fun v w2 hv => ?_)⟩
      obtain ⟨rfl, hF2, hd⟩ := hv
      rcases hd with ⟨-, k⟩ | ⟨k1, -⟩
      · exact ⟨rfl, _, keep hC1 hP hn hQ ho1 hF2 k hO4⟩
      · exact absurd k1 g
    · exact absurd g hcnd
theorem J_close (hL : LI G w bk mo o n c0 f kx zx) (hn : n < 512) : TwoI G l w bk mo o n kx zx yL_close wsL_close [.ref bk, .ref o] yX7_close wsX7_close 4 160 [.ref mo] := by
  obtain ⟨wA, tA, rA, rB, TA, TB, a, lq, oq, ad, capT, capA, capB, vcA, vcB, nw, op, sm, ti, sp, nm, nc, sz, ts, av, fi, wr, rm, rc, A1, A3, A4, A9, A10, A11, A13, A14, A15, A16, A18, A20, A25, A26, A27, A28, A30, A31, ML, OL, MA, hC, hP, hR, hQ, ho, hO⟩ := hL
  obtain ⟨h1, h2, h3, h4, h5, h6, h7⟩ := id hC
  obtain ⟨p1, p2, p3, p4, p5, p6, p7, p8, p9, p10, p11, p12, p13⟩ := id hP
  obtain ⟨b3, b4, o3, o4, eA3, edr, bnm, bnc, bop, bsm⟩ := hQ.bd hP
  have e1 := hQ.1.1.1
  have e2 := hQ.1.1.2.1
  have e3 := hQ.1.1.2.2.1
  have hT : (TA = 10 ∧ TB = 20) ∨ (TA = 20 ∧ TB = 10) := p1
  have hl0 : lq = none ↔ sm = 0 := hQ.l0
  have ho0 : oq = none ↔ op = 0 := hQ.o0
  have n0 := numC_0 ML
  obtain ⟨q1, q2, q3, q4⟩ := id hO
  have hon := h7.on
  have hfit := fitM hP hon
  obtain ⟨capA2, hc⟩ := Cap.ex (c := capA) (l := ((encAll 0 (-1) (fun _ => 0) (addM ML ti sp OL)).length : Int)) (by omega)
  have hge := hc.ge (by omega)
  have htop := hc.top (by omega)
  have hgv := gvc_b (L := OL) (c := vcA) ⟨q4.1, q4.2.1⟩ (okC_pl p5 p2.2)
  have hlt : OL ≠ [] → lasT 0 ML < ti ∨ (lasT 0 ML = ti ∧ lasS (-1) ML < sp) := fun g => p8 (hon g)
  have hAn := addM_n (ML := ML) (ti := ti) (sp := sp) (OL := OL)
  have hAl := addM_l (ML := ML) (ti := ti) (sp := sp) (OL := OL)
  have hx6 := c_L_close (l := l) h1 h7 h4 p4 p2 (by omega) p6 hlt p5 hc (by omega) hfit.2 (by omega) (by omega) ho
  obtain ⟨mc, hmc⟩ : ∃ z, z = ((capA2 - capA).toNat + 1 + (gvc vcA OL - vcA).toNat) := ⟨_, rfl⟩
  obtain ⟨ms, hms⟩ : ∃ z, z = ((2 * (capA2 - capA)).toNat + ((ML.length : Int) + (ML.length : Int) / 2 + 10).toNat + (2 * (gvc vcA OL - vcA)).toNat) := ⟨_, rfl⟩
  rw [← hmc, ← hms] at hx6
  have hO2 : CO ts capT capA2 capB (gvc vcA OL) vcB (n + 1) (kx + mc) (zx + ms) := ⟨by omega, by omega, ⟨q3.1, q3.2.1, by omega, by omega, q3.2.2.2.2⟩, ⟨by omega, by omega, q4.2.2⟩⟩
  have hO4 : OL = [] → CO ts capT capA capB vcA vcB (n + 1) (kx + mc) (zx + ms) := fun e => by
    rw [e, addM_0] at hc
    have hs := hc.stay (by omega) (by have := h4.cap; omega)
    have hg : gvc vcA OL = vcA := by rw [e]; rfl
    exact ⟨by omega, by omega, q3, q4⟩
  refine ⟨mc, ms, _, hO2.fit p10.1 (by omega), hx6, fun x w9 hp => ?_⟩
  obtain ⟨rfl, w1, y9, ho1, hw, ho9, hF9⟩ := hp
  rcases hw with ⟨g1, rfl, rfl⟩ | ⟨g1, rfl, MA2, g2, g3, g4, hF⟩
  · have hR1 := hR.cf hF9 (fun t q => by omega)
    have hC1 := hC.fr hF9 p1 (fun t q => by omega)
    refine ⟨⟨_, hR1.1⟩, ⟨by omega, by omega⟩, MG.imp (ref_close hR1 hQ hP) (fun v w2 hv => ?_)⟩
    obtain ⟨y, rfl, hF2, hd⟩ := hv
    rcases hd with ⟨-, rfl, k⟩ | ⟨k1, -⟩
    · exact ⟨_, rfl, _, keep hC1 hP hn hQ ho9 hF2 k (hO4 (Classical.byContradiction (fun q => hon q g1))), fun _ => by rw [upI_eq]⟩
    · exact absurd g1 k1
  · have hR1 := (hR.cf hF (fun t q => by omega)).cf hF9 (fun t q => by omega)
    refine ⟨⟨_, hR1.1⟩, ⟨by omega, by omega⟩, MG.imp (ref_close hR1 hQ hP) (fun v w2 hv => ?_)⟩
    obtain ⟨y, rfl, hF2, hd⟩ := hv
    rcases hd with ⟨k1, -⟩ | ⟨k0, rfl, nm2, nc2, sz2, B3, B9, B10, B11, B13, B14, B15, B16, B18, k, k1, k2⟩
    · rw [k1] at g1
      cases g1
    · have hlq : lq = some a := by
        rcases h6 with h | ⟨h, -⟩
        · exact absurd (p7 h).1 k0
        · exact h
      have hC1 : CI G w1 bk wA tA rA rB TA TB a lq none nw ts capT capA2 capB (gvc vcA OL) vcB ti sp A1 A20 (addM ML ti sp OL) [] MA2 := ⟨g2, h2.fr hF (by omega) (by omega), h3.fr hF (by omega) (by omega), g3, h5.fr hF (fun t x y => by omega), Or.inr ⟨hlq, g4⟩, Or.inl ⟨rfl, rfl⟩⟩
      have hC2 := hC1.fr hF9 p1 (fun t q => by omega)
      have hne : lq ≠ none := by rw [hlq]; exact fun q => (nomatch q)
      have hlast : lasT 0 (addM ML ti sp OL) < ti ∨ (lasT 0 (addM ML ti sp OL) = ti ∧ lasS (-1) (addM ML ti sp OL) ≤ sp) := by
        rcases hAl with ⟨u0, u1, u2⟩ | ⟨u0, u1, u2⟩
        · rw [u1, u2]
          exact p9 hne
        · rw [u1, u2]
          omega
      have hP1 : CP TA TB lq none nw ts ti sp A1 A20 (addM ML ti sp OL) [] (n + 1) := ⟨p1, p2, p3, hfit.1, trivial, p6, fun q => absurd q hne, fun q => absurd rfl q, fun _ => hlast, ⟨by omega, by omega⟩, p11, ⟨by omega, by show numC (addM ML ti sp OL) + ((0 : Nat) : Int) ≤ _; omega⟩, ⟨by omega, by omega⟩⟩
      exact ⟨_, rfl, _, LI.mk (hC2.fr hF2 p1 mT_S) hP1 k ⟨k1, k2, Or.inl ⟨rfl, rfl⟩, hQ.2.2.2.1, hQ.2.2.2.2⟩ (out_fr ho9 hF2 mT_7) hO2, fun _ => by rw [upI_eq]⟩
end LKS
