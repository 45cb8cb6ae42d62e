
theorem lshr_4 {a : Int} (h : 0 ≤ a ∧ a < 9223372036854775808) : lI a >>> ((iI 4).toInt64 &&& 63) = lI (a / 16) := by
  rw [show (iI 4).toInt64 &&& 63 = (4 : Int64) by decide]
  apply Int64.toInt.inj
  show ((lI a).toBitVec.sshiftRight' ((4 : Int64).toBitVec.smod 64)).toInt = _
  have e : ((4 : Int64).toBitVec.smod 64).toNat = 4 := by decide
  unfold BitVec.sshiftRight'
  rw [e, BitVec.toInt_sshiftRight]
  show (lI a).toInt >>> 4 = _
  rw [lI_t ⟨by omega, by omega⟩, lI_t ⟨by omega, by omega⟩, Int.shiftRight_eq_div_pow]
  omega
theorem lshr_1 {a : Int} (h : 0 ≤ a ∧ a < 9223372036854775808) : lI a >>> ((iI 1).toInt64 &&& 63) = lI (a / 2) := by
  rw [show (iI 1).toInt64 &&& 63 = (1 : Int64) by decide]
  apply Int64.toInt.inj
  show ((lI a).toBitVec.sshiftRight' ((1 : Int64).toBitVec.smod 64)).toInt = _
  have e : ((1 : Int64).toBitVec.smod 64).toNat = 1 := by decide
  unfold BitVec.sshiftRight'
  rw [e, BitVec.toInt_sshiftRight]
  show (lI a).toInt >>> 1 = _
  rw [lI_t ⟨by omega, by omega⟩, lI_t ⟨by omega, by omega⟩, Int.shiftRight_eq_div_pow]
  omega
theorem land_15 {a : Int} (h : 0 ≤ a ∧ a < 9223372036854775808) : lI a &&& lI 15 = lI (a % 16) := by
  obtain ⟨n, rfl⟩ : ∃ n : Nat, a = (n : Int) := ⟨a.toNat, by omega⟩
  have e : (n : Int) % 16 = ((n % 16 : Nat) : Int) := by omega
  rw [e]
  apply Int64.toBitVec.inj
  apply BitVec.eq_of_toNat_eq
  simp only [lI, Int64.toBitVec_and, BitVec.toNat_and, Int64.toBitVec_ofInt, BitVec.toNat_ofInt]
  have e2 : (((n : Nat) : Int) % ((2 ^ 64 : Nat) : Int)).toNat = n := by omega
  have e3 : ((15 : Int) % ((2 ^ 64 : Nat) : Int)).toNat = 15 := by decide
  have e4 : ((((n % 16 : Nat) : Int)) % ((2 ^ 64 : Nat) : Int)).toNat = n % 16 := by omega
  rw [e2, e3, e4]
  exact Nat.and_two_pow_sub_one_eq_mod n 4
theorem land_1 {a : Int} (h : 0 ≤ a ∧ a < 9223372036854775808) : lI a &&& lI 1 = lI (a % 2) := by
  obtain ⟨n, rfl⟩ : ∃ n : Nat, a = (n : Int) := ⟨a.toNat, by omega⟩
  have e : (n : Int) % 2 = ((n % 2 : Nat) : Int) := by omega
  rw [e]
  apply Int64.toBitVec.inj
  apply BitVec.eq_of_toNat_eq
  simp only [lI, Int64.toBitVec_and, BitVec.toNat_and, Int64.toBitVec_ofInt, BitVec.toNat_ofInt]
  have e2 : (((n : Nat) : Int) % ((2 ^ 64 : Nat) : Int)).toNat = n := by omega
  have e3 : ((1 : Int) % ((2 ^ 64 : Nat) : Int)).toNat = 1 := by decide
  have e4 : ((((n % 2 : Nat) : Int)) % ((2 ^ 64 : Nat) : Int)).toNat = n % 2 := by omega
  rw [e2, e3, e4]
  exact Nat.and_two_pow_sub_one_eq_mod n 1
theorem pwL_lo {L : List (Int × Int)} {q : Int × Int} {j : Int} (h0 : 0 ≤ j) (h : j < L.length) : pwL (L ++ [q]) j = pwL L j ∧ vlL (L ++ [q]) j = vlL L j := by
  unfold pwL vlL
  rw [List.getElem?_append_left (by omega)]
  exact ⟨rfl, rfl⟩
theorem pwL_at {L : List (Int × Int)} {q : Int × Int} : pwL (L ++ [q]) L.length = q.1 ∧ vlL (L ++ [q]) L.length = q.2 := by
  unfold pwL vlL
  rw [show ((L.length : Nat) : Int).toNat = L.length by omega, List.getElem?_append_right (Nat.le_refl _), Nat.sub_self]
  exact ⟨rfl, rfl⟩
theorem ChAt.snoc {w : Wd} {tg : Nat} {L : List (Int × Int)} {LL : Int → Nat} {S : Int → Int} (h : ChAt w tg L.length LL (pwL L) (vlL L) (fun j => S (pwL L j))) {p v : Int} {a : Nat} (ha : w a = some (tg, .inr (4, chV p v (S p)))) : ChAt w tg ((L ++ [(p, v)]).length : Nat) (upA LL L.length a) (pwL (L ++ [(p, v)])) (vlL (L ++ [(p, v)])) (fun j => S (pwL (L ++ [(p, v)]) j)) := fun j h0 h1 => by
  have e : ((L ++ [(p, v)]).length : Nat) = L.length + 1 := List.length_append
  rw [e] at h1
  show w (upA LL L.length a j) = some (tg, .inr (4, chV (pwL (L ++ [(p, v)]) j) (vlL (L ++ [(p, v)]) j) (S (pwL (L ++ [(p, v)]) j))))
  by_cases q : j = L.length
  · subst q
    rw [upA_eq, pwL_at.1, pwL_at.2]
    exact ha
  · rw [upA_ne q, (pwL_lo h0 (by omega)).1, (pwL_lo h0 (by omega)).2]
    exact h j h0 (by omega)
theorem Srt.snoc {L : List (Int × Int)} (h : Srt L.length (pwL L)) {p v pz : Int} (hz : 0 < L.length → pz = pwL L (L.length - 1)) (hp : pz < p ∧ 0 ≤ p ∧ p < 12800) : Srt ((L ++ [(p, v)]).length : Nat) (pwL (L ++ [(p, v)])) := by
  have e : ((L ++ [(p, v)]).length : Nat) = L.length + 1 := List.length_append
  rw [e]
  refine ⟨fun j h0 h1 => ?_, fun i j h0 h1 h2 => ?_⟩
  · by_cases q : j = L.length
    · rw [q, pwL_at.1]; exact hp.2
    · rw [(pwL_lo h0 (by omega)).1]; exact h.1 j h0 (by omega)
  · rw [(pwL_lo h0 (by omega)).1]
    by_cases q : j = L.length
    · rw [q, pwL_at.1]
      have e2 := hz (by omega)
      by_cases q2 : i = L.length - 1
      · rw [q2, ← e2]; exact hp.1
      · have := h.2 i (L.length - 1) h0 (by omega) (by omega)
        show pwL L i < p
        omega
    · rw [(pwL_lo (by omega) (by omega)).1]; exact h.2 i j h0 h1 (by omega)
theorem WiresAt.cntF {G : GG} {w : Wd} {r : Nat} {n : Int} {A1 : Int → Int} (h : WiresAt G w r n A1) : ∃ kq, w r = some (2, .inr (8, [.ref kq, .int (iI n)])) := by
  obtain ⟨kq, f, q1, -⟩ := h
  exact ⟨kq, q1⟩
theorem c_readCount_U {G : GG} {l : Launch} {w : Wd} {r : Nat} {tp wr rw : Nat} {tz cap pl fa : Int} {T : Int → Int} (h1 : w r = some (6, .inr (6, [.ref tp, .ref wr, .ref rw, .int (iI pl), .int (iI fa)]))) (hB : BytesAt G w 4 tp tz cap T) (hp : 0 ≤ pl ∧ pl ≤ tz ∧ tz ≤ 60000) (hfr : R32 fa) : MG G l yX3_readCount wsX3_readCount 2 80 0 0 [.ref r] w (pL (fun (x : Int) (w' : Wd) => ∃ pl3 fa3, w' r = some (6, .inr (6, [.ref tp, .ref wr, .ref rw, .int (iI pl3), .int (iI fa3)])) ∧ (0 ≤ pl3 ∧ pl3 ≤ tz) ∧ ((fa ≠ -1 ∧ fa3 = fa ∧ pl3 = pl ∧ x = -1) ∨ (fa = -1 ∧ fa3 = rcF T tz pl ∧ (rcF T tz pl = -1 → x = rcV T tz pl ∧ pl3 = rcN T tz pl) ∧ (rcF T tz pl ≠ -1 → x = -1))) ∧ Fr (fun t => t = 6) w w')) := by
  by_cases q : fa = -1
  · refine (c_X3_readCount h1 hB hp q).imp fun v w' hv => ?_
    obtain ⟨x, hv, pl2, g1, g2, g3, g4, g5⟩ := hv
    exact ⟨x, hv, pl2, _, g1, g2, Or.inr ⟨q, rfl, g3, g4⟩, g5⟩
  · refine (c_readCount_N h1 hB q hfr).imp fun v w' hv => ?_
    obtain ⟨x, hv, g1, rfl⟩ := hv
    exact ⟨x, hv, pl, fa, h1, ⟨hp.1, hp.2.1⟩, Or.inl ⟨q, rfl, rfl, g1⟩, Fr.rf⟩
theorem c_readCW_U {G : GG} {l : Launch} {w : Wd} {r : Nat} {tp wr rw : Nat} {tz cap pl fa : Int} {T : Int → Int} {lo hi : Int} (h1 : w r = some (6, .inr (6, [.ref tp, .ref wr, .ref rw, .int (iI pl), .int (iI fa)]))) (hB : BytesAt G w 4 tp tz cap T) (hp : 0 ≤ pl ∧ pl ≤ tz ∧ tz ≤ 60000) (hfr : R32 fa) (hlo : R64 lo) (hhi : R64 hi) : MG G l yX3_readCountWithin wsX3_readCountWithin 3 120 0 0 [.ref r, .long (lI lo), .long (lI hi)] w (pL (fun (x : Int) (w' : Wd) => ∃ pl2 fa2, w' r = some (6, .inr (6, [.ref tp, .ref wr, .ref rw, .int (iI pl2), .int (iI fa2)])) ∧ (0 ≤ pl2 ∧ pl2 ≤ tz) ∧ ((fa ≠ -1 ∧ fa2 = fa ∧ pl2 = pl ∧ x = -1) ∨ (fa = -1 ∧ ((rcF T tz pl ≠ -1 ∧ fa2 = rcF T tz pl ∧ x = -1) ∨ (rcF T tz pl = -1 ∧ x = rcV T tz pl ∧ pl2 = rcN T tz pl ∧ (((x < lo ∨ hi < x) ∧ fa2 = pl) ∨ (¬ (x < lo ∨ hi < x) ∧ fa2 = -1)))))) ∧ Fr (fun t => t = 6) w w')) := by
  by_cases q : fa = -1
  · refine (c_X3_readCountWithin h1 hB hp q hlo hhi).imp fun v w' hv => ?_
    obtain ⟨x, hv, pl2, fa2, g1, g2, g3, g5⟩ := hv
    exact ⟨x, hv, pl2, fa2, g1, g2, Or.inr ⟨q, g3⟩, g5⟩
  · refine (c_readCW_N h1 hB q hfr hlo hhi).imp fun v w' hv => ?_
    obtain ⟨x, hv, g1, rfl⟩ := hv
    exact ⟨x, hv, pl, fa, h1, ⟨hp.1, hp.2.1⟩, Or.inl ⟨q, rfl, rfl, g1⟩, Fr.rf⟩
