section LWS
variable {G : GG} {p : Program} {l : Launch} {e : Env} {s : State} {m : MethodId} {args : Array Value} {below : List Frame} {meth : Method} {c : Code} {Q : State → Prop} {nm9 : String} {w : Wd} {k z pc : Nat} {ll : List (Option Value)} {st : List Value} {b L : Nat} {xs : Nat → Int32} {bk mo o : Nat} {n i c0 : Int} {f : Int → Int}
def scI (xs : Nat → Int32) (j : Int) : Int := (xs j.toNat).toInt
theorem scI_r (xs : Nat → Int32) (j : Int) : R32 (scI xs j) := R32_of _
theorem bsl_8_4 {x0 x1 x2 x3 x4 x5 x6 x7 : Option Value} {v : Value} : stL [x0, x1, x2, x3, x4, x5, x6, x7] 4 v = [x0, x1, x2, x3, some v, x5, x6, x7] := rfl
theorem iand_15 (a : Int) : iI a &&& iI 15 = iI (a % 16) := by
  rw [pk_and (iI a) (m := iI 15) 4 (by decide +kernel)]
  have h : (iI a).toBitVec.toNat = (a % 4294967296).toNat := by
    show (BitVec.ofInt 32 a).toNat = _
    rw [BitVec.toNat_ofInt]
    rfl
  rw [h]
  show Int32.ofNat _ = Int32.ofInt _
  rw [← Int32.ofInt_eq_ofNat]
  congr 1
  omega
theorem v_sld {y : MethodName} {cc : ByteArray} {nL : Nat} {ret : Option FieldType} {ws : List Cond} {R : Room} (C : Cx G p s m args meth c y cc nL ret ws) (hX : va_X b L xs s (gH G)) (hb : b < gN G) (hi : R32 i) (h0 : 0 ≤ i) (hn : i < (L : Int)) (d : decode cc pc = .ok (.iaload, 1)) (kk : V G p l e R s m args below meth c Q w k z (pc + 1) ll (.int (iI (scI xs i)) :: st)) : V G p l e R s m args below meth c Q w k z pc ll (.int (iI i) :: .ref b :: st) := by
  intro H locs ls hR hL hl
  obtain ⟨scr, h1, h2, h3, h4, h5⟩ := hX
  have hc : (iI i).toNatClampNeg = i.toNat := iI_clamp hi
  have e9 : xs i.toNat = iI (scI xs i) := iI_of _
  have hin : vp_in (iI i) L := by
    have := iI_in (n := (L : Int)) hi h0 hn
    rwa [Int.toNat_natCast] at this
  refine W.iald (v := .int (xs i.toNat)) C.1 C.2.1 (by rw [hR.2.1 b hb]; exact h1) h2 h3 (by rw [h4]; exact hin) (by rw [hc]; exact h5 _ (by omega)) rfl rfl d ?_
  have := kk H locs ls hR hL hl
  rw [← e9] at this
  exact this
theorem v_slen {y : MethodName} {cc : ByteArray} {nL : Nat} {ret : Option FieldType} {ws : List Cond} {R : Room} (C : Cx G p s m args meth c y cc nL ret ws) (hX : va_X b L xs s (gH G)) (hb : b < gN G) (d : decode cc pc = .ok (.arraylength, 1)) (kk : V G p l e R s m args below meth c Q w k z (pc + 1) ll (.int (iI (L : Int)) :: st)) : V G p l e R s m args below meth c Q w k z pc ll (.ref b :: st) := by
  intro H locs ls hR hL hl
  obtain ⟨scr, h1, h2, h3, h4, h5⟩ := hX
  exact W.alen (n := iI (L : Int)) C.1 C.2.1 (by rw [hR.2.1 b hb]; exact h1) h2 (by rw [h4]; exact (Int32.ofInt_eq_ofNat).symm) rfl rfl d (kk H locs ls hR hL hl)
theorem LI.fit (h : LI G w bk mo o n c0 f k z) (hn : n ≤ 512) : k ≤ 601024 ∧ z ≤ 7293034 := by
  obtain ⟨wA, tA, rA, rB, TA, TB, a, lq, oq, ad, capT, capA, capB, vcA, vcB, nw, op, sm, ti, sp, nm, nc, sz, ts, av, fi, wr, rm, rc, A1, A3, A4, A9, A10, A11, A13, A14, A15, A16, A18, A20, A25, A26, A27, A28, A30, A31, ML, OL, MA, hC, hP, hR, hQ, ho, hO⟩ := h
  exact hO.fit hP.2.2.2.2.2.2.2.2.2.1.1 hn
end LWS
