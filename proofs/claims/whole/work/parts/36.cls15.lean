theorem bsj_15_2 {x0 x1 x2 x3 x4 x5 x6 x7 x8 x9 x10 x11 x12 x13 x14 : Option Value} {v : Value} : stJ [x0, x1, x2, x3, x4, x5, x6, x7, x8, x9, x10, x11, x12, x13, x14] 2 v = [x0, x1, some v, none, x4, x5, x6, x7, x8, x9, x10, x11, x12, x13, x14] := rfl
theorem bsj_15_5 {x0 x1 x2 x3 x4 x5 x6 x7 x8 x9 x10 x11 x12 x13 x14 : Option Value} {v : Value} : stJ [x0, x1, x2, x3, x4, x5, x6, x7, x8, x9, x10, x11, x12, x13, x14] 5 v = [x0, x1, x2, x3, x4, some v, none, x7, x8, x9, x10, x11, x12, x13, x14] := rfl
theorem bsj_15_7 {x0 x1 x2 x3 x4 x5 x6 x7 x8 x9 x10 x11 x12 x13 x14 : Option Value} {v : Value} : stJ [x0, x1, x2, x3, x4, x5, x6, x7, x8, x9, x10, x11, x12, x13, x14] 7 v = [x0, x1, x2, x3, x4, x5, x6, some v, none, x9, x10, x11, x12, x13, x14] := rfl
theorem bsj_15_9 {x0 x1 x2 x3 x4 x5 x6 x7 x8 x9 x10 x11 x12 x13 x14 : Option Value} {v : Value} : stJ [x0, x1, x2, x3, x4, x5, x6, x7, x8, x9, x10, x11, x12, x13, x14] 9 v = [x0, x1, x2, x3, x4, x5, x6, x7, x8, some v, none, x11, x12, x13, x14] := rfl
theorem bsj_15_11 {x0 x1 x2 x3 x4 x5 x6 x7 x8 x9 x10 x11 x12 x13 x14 : Option Value} {v : Value} : stJ [x0, x1, x2, x3, x4, x5, x6, x7, x8, x9, x10, x11, x12, x13, x14] 11 v = [x0, x1, x2, x3, x4, x5, x6, x7, x8, x9, x10, some v, none, x13, x14] := rfl
theorem bsk_15_1 {x0 x1 x2 x3 x4 x5 x6 x7 x8 x9 x10 x11 x12 x13 x14 : Option Value} : stK [x0, x1, x2, x3, x4, x5, x6, x7, x8, x9, x10, x11, x12, x13, x14] 1 = [x0, none, x2, x3, x4, x5, x6, x7, x8, x9, x10, x11, x12, x13, x14] := rfl
theorem bsk_15_2 {x0 x1 x2 x3 x4 x5 x6 x7 x8 x9 x10 x11 x12 x13 x14 : Option Value} : stK [x0, x1, x2, x3, x4, x5, x6, x7, x8, x9, x10, x11, x12, x13, x14] 2 = [x0, x1, none, x3, x4, x5, x6, x7, x8, x9, x10, x11, x12, x13, x14] := rfl
theorem bsk_15_4 {x0 x1 x2 x3 x4 x5 x6 x7 x8 x9 x10 x11 x12 x13 x14 : Option Value} : stK [x0, x1, x2, x3, x4, x5, x6, x7, x8, x9, x10, x11, x12, x13, x14] 4 = [x0, x1, x2, x3, none, x5, x6, x7, x8, x9, x10, x11, x12, x13, x14] := rfl
theorem bsk_15_5 {x0 x1 x2 x3 x4 x5 x6 x7 x8 x9 x10 x11 x12 x13 x14 : Option Value} : stK [x0, x1, x2, x3, x4, x5, x6, x7, x8, x9, x10, x11, x12, x13, x14] 5 = [x0, x1, x2, x3, x4, none, x6, x7, x8, x9, x10, x11, x12, x13, x14] := rfl
theorem bsk_15_7 {x0 x1 x2 x3 x4 x5 x6 x7 x8 x9 x10 x11 x12 x13 x14 : Option Value} : stK [x0, x1, x2, x3, x4, x5, x6, x7, x8, x9, x10, x11, x12, x13, x14] 7 = [x0, x1, x2, x3, x4, x5, x6, none, x8, x9, x10, x11, x12, x13, x14] := rfl
theorem bsk_15_9 {x0 x1 x2 x3 x4 x5 x6 x7 x8 x9 x10 x11 x12 x13 x14 : Option Value} : stK [x0, x1, x2, x3, x4, x5, x6, x7, x8, x9, x10, x11, x12, x13, x14] 9 = [x0, x1, x2, x3, x4, x5, x6, x7, x8, none, x10, x11, x12, x13, x14] := rfl
theorem bsl_15_1 {x0 x1 x2 x3 x4 x5 x6 x7 x8 x9 x10 x11 x12 x13 x14 : Option Value} {v : Value} : stL [x0, x1, x2, x3, x4, x5, x6, x7, x8, x9, x10, x11, x12, x13, x14] 1 v = [x0, some v, x2, x3, x4, x5, x6, x7, x8, x9, x10, x11, x12, x13, x14] := rfl
theorem bsl_15_4 {x0 x1 x2 x3 x4 x5 x6 x7 x8 x9 x10 x11 x12 x13 x14 : Option Value} {v : Value} : stL [x0, x1, x2, x3, x4, x5, x6, x7, x8, x9, x10, x11, x12, x13, x14] 4 v = [x0, x1, x2, x3, some v, x5, x6, x7, x8, x9, x10, x11, x12, x13, x14] := rfl
theorem bsl_15_13 {x0 x1 x2 x3 x4 x5 x6 x7 x8 x9 x10 x11 x12 x13 x14 : Option Value} {v : Value} : stL [x0, x1, x2, x3, x4, x5, x6, x7, x8, x9, x10, x11, x12, x13, x14] 13 v = [x0, x1, x2, x3, x4, x5, x6, x7, x8, x9, x10, x11, x12, some v, x14] := rfl
theorem bsl_15_14 {x0 x1 x2 x3 x4 x5 x6 x7 x8 x9 x10 x11 x12 x13 x14 : Option Value} {v : Value} : stL [x0, x1, x2, x3, x4, x5, x6, x7, x8, x9, x10, x11, x12, x13, x14] 14 v = [x0, x1, x2, x3, x4, x5, x6, x7, x8, x9, x10, x11, x12, x13, some v] := rfl
abbrev ML2 : Type := List (Int × Int)
/-- the last moment's time and step -/
def LastM (w : Wd) (n : Int) (M : Int → Nat) (lt ls : Int) : Prop := 0 < n → ∃ q1 q2, w (M (n - 1)) = some (100 + 4 * M (n - 1), .inr (5, [.long (lI lt), .long (lI ls), q1, q2]))
theorem LastM.fr {w w2 : Wd} {S : Nat → Prop} {n : Int} {M : Int → Nat} {lt ls : Int} (h : LastM w n M lt ls) (hF : Fr S w w2) (h0 : ¬ S (100 + 4 * M (n - 1))) : LastM w2 n M lt ls := fun q => by
  obtain ⟨q1, q2, e⟩ := h q
  exact ⟨q1, q2, hF _ _ _ h0 e⟩
/-- cells whose tags are not of S stay; of moments only such as were there -/
def FrO (S : Nat → Prop) (w w' : Wd) : Prop := ∀ b t e, ¬ S t → (100 ≤ t → ∃ vs, w ((t - 100) / 4) = some (100 + 4 * ((t - 100) / 4), .inr (5, vs))) → w b = some (t, e) → w' b = some (t, e)
theorem Fr.o {S : Nat → Prop} {w w' : Wd} (h : Fr S w w') : FrO S w w' := fun b t e hs _ hb => h b t e hs hb
theorem FrO.mono {S S' : Nat → Prop} {w w1 : Wd} (h : FrO S w w1) (hs : ∀ t, S t → S' t) : FrO S' w w1 := fun a t e hn ho ha => h a t e (fun q => hn (hs t q)) ho ha
theorem FrO.tr {S : Nat → Prop} {w w1 w2 : Wd} (h : FrO S w w1) (h' : FrO S w1 w2) (hS : ∀ a, ¬ S (100 + 4 * a)) : FrO S w w2 := fun b t e hs ho hb => by
  refine h' b t e hs (fun h100 => ?_) (h b t e hs ho hb)
  obtain ⟨vs, q⟩ := ho h100
  exact ⟨vs, h _ _ _ (hS _) (fun _ => ⟨vs, by rw [show (100 + 4 * ((t - 100) / 4) - 100) / 4 = (t - 100) / 4 by omega]; exact q⟩) q⟩
/-- a frame that lets a new moment's tags change -/
theorem Fr.newM {S : Nat → Prop} {w w' : Wd} {a : Nat} (h : Fr (fun t => S t ∨ (100 + 4 * a ≤ t ∧ t < 104 + 4 * a)) w w') (ha : ∀ t e, w a = some (t, e) → S t) (hS : ∀ a, ¬ S (100 + 4 * a)) : FrO S w w' := fun b t e hs ho hb => by
  refine h b t e (fun q => ?_) hb
  rcases q with q | q
  · exact hs q
  · obtain ⟨vs, g⟩ := ho (by omega)
    rw [show (t - 100) / 4 = a by omega] at g
    exact hS a (ha _ _ g)
theorem Fr.none {S : Nat → Prop} {w w' : Wd} {a : Nat} (h : Fr S w w') (ha : w' a = none) : ∀ t e, w a = some (t, e) → S t := fun t e q => Classical.byContradiction fun g => by
  have := h _ _ _ g q
  rw [ha] at this
  cases this
theorem MomAt.frO {G : GG} {w w2 : Wd} {S : Nat → Prop} {a : Nat} {t s pl n : Int} {pw vl bf : Int → Int} (h : MomAt G w a t s pl n pw vl bf) (hF : FrO S w w2) (hS : ∀ t, 100 + 4 * a ≤ t → t < 104 + 4 * a → ¬ S t) : MomAt G w2 a t s pl n pw vl bf := by
  have hF2 : Fr (fun t => ¬ (100 + 4 * a ≤ t ∧ t < 104 + 4 * a)) w w2 := fun b t e hn hb => by
    have hn := Classical.not_not.mp hn
    obtain ⟨fs, q⟩ := h.obj
    refine hF b t e (hS t hn.1 hn.2) (fun _ => ⟨fs, ?_⟩) hb
    rw [show (t - 100) / 4 = a by omega]
    exact q
  exact h.fr hF2 (fun g => g ⟨by omega, by omega⟩) (fun g => g ⟨by omega, by omega⟩) (fun g => g ⟨by omega, by omega⟩) (fun g => g ⟨by omega, by omega⟩)
theorem FrO.lo {S : Nat → Prop} {w w2 : Wd} (h : FrO S w w2) : Fr (fun t => S t ∨ 100 ≤ t) w w2 := fun b t e hn hb => h b t e (fun q => hn (Or.inl q)) (fun q => absurd (Or.inr q) hn) hb
set_option maxRecDepth 100000 in
set_option maxHeartbeats 400000 in
theorem c_X3_readMoment {G : GG} {l : Launch} {w : Wd} {r : Nat} {tp wr rw : Nat} {tz cap pl fa : Int} {T : Int → Int} {TR bt ml vk : Nat} {len cap9 n vcap nw lt ls lt9 ls9 cst : Int} {b vf A1 : Int → Int} {M : Int → Nat} (h1 : w r = some (6, .inr (6, [.ref tp, .ref wr, .ref rw, .int (iI pl), .int (iI fa)]))) (hB : BytesAt G w 4 tp tz cap T) (hW : WiresAt G w wr nw A1) (hA1 : ∀ i, 0 ≤ i → i < nw → 1 ≤ A1 i ∧ A1 i ≤ 64) (hnw : 0 ≤ nw ∧ nw ≤ 200) (hRw : RowR G w TR rw bt ml vk len cap9 b n M vcap vf) (hTR : 6 < TR ∧ TR < 90) (hM : LastM w n M lt ls) (hlt : lt9 = (if n = 0 then 0 else lt)) (hls : ls9 = (if n = 0 then -1 else ls)) (hlr : 0 ≤ lt9 ∧ lt9 < 1152921504606846976 ∧ -1 ≤ ls9 ∧ ls9 < 1152921504606846976) (hpl : 0 ≤ pl ∧ pl ≤ tz ∧ tz ≤ 2048) (hf : fa = -1) (hcst : 0 ≤ cst ∧ ((pmo T tz nw A1 pl lt9 ls9 (ext vf vcap)).1 = -1 → (pmo T tz nw A1 pl lt9 ls9 (ext vf vcap)).2.1 ≤ pl + cst) ∧ ((pmo T tz nw A1 pl lt9 ls9 (ext vf vcap)).1 ≠ -1 → tz ≤ pl + cst)) : MG G l yX3_readMoment wsX3_readMoment 9 360 ((4 + cst).toNat) ((1607 + 800 * cst).toNat) [.ref r] w (pR (fun (x : Option Nat) (w' : Wd) => ∃ pl2, w' r = some (6, .inr (6, [.ref tp, .ref wr, .ref rw, .int (iI pl2), .int (iI (pmo T tz nw A1 pl lt9 ls9 (ext vf vcap)).1)])) ∧ (0 ≤ pl2 ∧ pl2 ≤ tz) ∧ FrO (fun t => t = 6 ∨ t = 0) w w' ∧ R32 (pmo T tz nw A1 pl lt9 ls9 (ext vf vcap)).1 ∧ (((pmo T tz nw A1 pl lt9 ls9 (ext vf vcap)).1 ≠ -1 ∧ x = none) ∨ ((pmo T tz nw A1 pl lt9 ls9 (ext vf vcap)).1 = -1 ∧ pl2 = (pmo T tz nw A1 pl lt9 ls9 (ext vf vcap)).2.1 ∧ ∃ a9, x = some a9 ∧ (∀ t e, w a9 = some (t, e) → t = 6 ∨ t = 0) ∧ MomAt G w' a9 (pmo T tz nw A1 pl lt9 ls9 (ext vf vcap)).2.2.1 (pmo T tz nw A1 pl lt9 ls9 (ext vf vcap)).2.2.2.1 (-1) (pmo T tz nw A1 pl lt9 ls9 (ext vf vcap)).2.2.2.2.length (pwL (pmo T tz nw A1 pl lt9 ls9 (ext vf vcap)).2.2.2.2) (vlL (pmo T tz nw A1 pl lt9 ls9 (ext vf vcap)).2.2.2.2) (fun j => ext vf vcap (pwL (pmo T tz nw A1 pl lt9 ls9 (ext vf vcap)).2.2.2.2 j)) ∧ Srt (pmo T tz nw A1 pl lt9 ls9 (ext vf vcap)).2.2.2.2.length (pwL (pmo T tz nw A1 pl lt9 ls9 (ext vf vcap)).2.2.2.2) ∧ ∀ j : Int, 0 ≤ j → j < ((pmo T tz nw A1 pl lt9 ls9 (ext vf vcap)).2.2.2.2.length : Int) → 0 ≤ vlL (pmo T tz nw A1 pl lt9 ls9 (ext vf vcap)).2.2.2.2 j ∧ vlL (pmo T tz nw A1 pl lt9 ls9 (ext vf vcap)).2.2.2.2 j ≤ 8)))) := by
  refine MG.of (cc := cX3_readMoment) (nL := 15) (ret := (some (.object "TraceBook$Moment"))) (ll := [some (.ref r), none, none, none, none, none, none, none, none, none, none, none, none, none, none]) (by decide) rfl (Nat.le_of_ble_eq_true rfl) rfl ?_
  intro p e s m args below meth c C
  have hts := C.2.2.2.2.1
  have g23 : GetF G s m args 23 6 3 := getF_of C 6 3 (T := TX3) (N := 5) (Cn := RX3) (ref := "TraceBook$Reader") rfl (by decide) (fun _ h => List.mem_cons_of_mem _ (List.mem_append_left _ (List.mem_append_left _ (List.mem_append_left _ (List.mem_append_left _ (List.mem_append_left _ (List.mem_append_left _ (List.mem_append_right _ (h))))))))) (List.mem_of_getElem? (i := 1) rfl) (fun _ h => h)
  have g27 : GetF G s m args 27 6 4 := getF_of C 6 4 (T := TX3) (N := 5) (Cn := RX3) (ref := "TraceBook$Reader") rfl (by decide) (fun _ h => List.mem_cons_of_mem _ (List.mem_append_left _ (List.mem_append_left _ (List.mem_append_left _ (List.mem_append_left _ (List.mem_append_left _ (List.mem_append_left _ (List.mem_append_right _ (h))))))))) (List.mem_of_getElem? (i := 2) rfl) (fun _ h => h)
  have g9 : GetF G s m args 9 6 0 := getF_of C 6 0 (T := TX3) (N := 5) (Cn := RX3) (ref := "TraceBook$Reader") rfl (by decide) (fun _ h => List.mem_cons_of_mem _ (List.mem_append_left _ (List.mem_append_left _ (List.mem_append_left _ (List.mem_append_left _ (List.mem_append_left _ (List.mem_append_left _ (List.mem_append_right _ (h))))))))) (List.mem_of_getElem? (i := 9) rfl) (fun _ h => h)
  have g30 : GetN G s m args 30 3 1 := getN_of C 3 1 (T := TX0) (N := 2) (Cn := RX0) (ref := "TraceBook$Bytes") rfl (by decide) (fun _ h => List.mem_cons_of_mem _ (List.mem_append_left _ (List.mem_append_left _ (List.mem_append_left _ (List.mem_append_left _ (List.mem_append_right _ (h))))))) (List.mem_of_getElem? (i := 14) rfl) (fun _ h => h)
  have g68 : GetN G s m args 68 5 2 := getN_of C 5 2 (T := TX2) (N := 4) (Cn := RX2) (ref := "TraceBook$Moment") rfl (by decide) (fun _ h => List.mem_cons_of_mem _ (List.mem_append_left _ (List.mem_append_left _ (List.mem_append_left _ (List.mem_append_left _ (List.mem_append_left _ (List.mem_append_right _ (h)))))))) (List.mem_of_getElem? (i := 15) rfl) (fun _ h => h)
  have g19 : GetF G s m args 19 6 2 := getF_of C 6 2 (T := TX3) (N := 5) (Cn := RX3) (ref := "TraceBook$Reader") rfl (by decide) (fun _ h => List.mem_cons_of_mem _ (List.mem_append_left _ (List.mem_append_left _ (List.mem_append_left _ (List.mem_append_left _ (List.mem_append_left _ (List.mem_append_left _ (List.mem_append_right _ (h))))))))) (List.mem_of_getElem? (i := 3) rfl) (fun _ h => h)
  have p27 : PutF G s m args 27 6 4 (.int) := putF_of C 6 4 tyX3 tyX3_ok nmX3 (T := TX3) (N := 5) (Cn := RX3) (ref := "TraceBook$Reader") rfl (by decide) (fun _ h => List.mem_cons_of_mem _ (List.mem_append_left _ (List.mem_append_left _ (List.mem_append_left _ (List.mem_append_left _ (List.mem_append_left _ (List.mem_append_left _ (List.mem_append_right _ (h))))))))) (List.mem_of_getElem? (i := 2) rfl) (fun _ h => h) rfl (by decide +kernel)
  refine poR (P := fun PO => V G p l e _ s m args below meth c (MQW G below args s _ _ (pR PO)) w 0 0 0 _ []) (fun PO hPO => ?_)
  obtain ⟨w0, hw0⟩ : ∃ z, z = w := ⟨_, rfl⟩
  rw [← hw0] at hPO
  have hF : Fr (fun t => t = 6 ∨ t = 0) w0 w := by rw [hw0]; exact Fr.rf
  obtain ⟨RR, hRR⟩ : ∃ z, z = (pmo T tz nw A1 pl lt9 ls9 (ext vf vcap)) := ⟨_, rfl⟩
  rw [← hRR] at hPO hcst
  have hRR0 : rcF T tz pl ≠ -1 → RR.1 = rcF T tz pl := fun q => by rw [hRR, pmo, if_pos q]
  refine v_aload_n C dX3_readMoment_0 rfl ?_
  refine v_getf C g23 h1 rfl dX3_readMoment_1 ?_
  refine v_istore_n C dX3_readMoment_4 bsl_15_1 (by decide) rfl ?_
  refine v_aload_n C dX3_readMoment_5 rfl ?_
  refine v_callVl C (q := (RX3, TX3, 5)) (As := []) (rest := []) (c_X3_readCount h1 hB ⟨hpl.1, hpl.2.1, by omega⟩ hf) (cwV 0 hts gX3_readMoment_X3_readCount rfl rfl rfl (by decide +kernel) ⟨Nat.le_of_ble_eq_true rfl, Nat.le_of_ble_eq_true rfl⟩) (h1) rfl rfl rfl (Nat.le_of_ble_eq_true rfl) dX3_readMoment_6 (by dsimp only; omega) (by dsimp only; omega) (fun x_6 w hp => ?_)
  obtain ⟨pl6, h1, hpl6, hok6, hno6, hF9⟩ := hp
  have hbd6 := rcF_bd (T := T) (N := tz) (a := pl) (by omega) (by omega)
  have hB := hB.fr hF9 (fun h9 => by have h8 : 4 = 6 := h9; omega) (fun h9 => by have h8 : 4 + 1 = 6 := h9; omega)
  have hW := hW.fr hF9 (fun h9 => by have h8 : 2 = 6 := h9; omega) (fun h9 => by have h8 : 3 = 6 := h9; omega)
  have hRw := hRw.fr hF9 (fun h9 => by have h8 : TR = 6 := h9; omega) (fun h9 => by have h8 : TR + 1 = 6 := h9; omega) (fun h9 => by have h8 : TR + 2 = 6 := h9; omega) (fun h9 => by have h8 : TR + 3 = 6 := h9; omega) (fun h9 => by have h8 : TR + 4 = 6 := h9; omega) (fun h9 => by have h8 : TR + 5 = 6 := h9; omega)
  have hM := hM.fr hF9 (fun h9 => by have h8 : 100 + 4 * M (n - 1) = 6 := h9; omega)
  have hF := hF.tr (hF9.mono (fun t h9 => by have h8 : t = 6 := h9; show t = 6 ∨ t = 0; omega))
  refine v_lstore_n C dX3_readMoment_9 bsj_15_2 (by decide) (Nat.le_of_ble_eq_true rfl) rfl ?_
  refine v_aload_n C dX3_readMoment_10 rfl ?_
  refine v_getf C g27 h1 rfl dX3_readMoment_11 ?_
  refine v_iconst C dX3_readMoment_14 ?_
  refine v_icmp_eq C (⟨by omega, by omega⟩) (⟨by omega, by omega⟩) (tgt := 20) dX3_readMoment_15 (by decide) (fun c_15 => ?_) (fun c_15 => ?_)
  · obtain ⟨k1, k2⟩ := hok6 c_15
    have hrc6 := rc_ok (T := T) (N := tz) (a := pl) (by omega) (by omega) c_15
    rw [c_15] at h1
    rw [← k1, ← k2] at hrc6
    have J135 : ∀ (w : Wd) (pl2 fa2 t1 s2 : Int), (w r = some (6, .inr (6, [.ref tp, .ref wr, .ref rw, .int (iI pl2), .int (iI fa2)]))) → (BytesAt G w 4 tp tz cap T) → (WiresAt G w wr nw A1) → (RowR G w TR rw bt ml vk len cap9 b n M vcap vf) → (Fr (fun t => t = 6 ∨ t = 0) w0 w) → (0 ≤ pl2 ∧ pl2 ≤ tz) → ((fa2 = -1 ∧ RR = pmT T tz nw A1 pl2 t1 s2 (ext vf vcap) ∧ pl < pl2) ∨ (fa2 ≠ -1 ∧ RR.1 = fa2 ∧ R32 fa2)) → V G p l e { frames := 9, cells := (4 + cst).toNat, slots := (1607 + 800 * cst).toNat, locals := 360 } s m args below meth c (MQW G below args s ((4 + cst).toNat) ((1607 + 800 * cst).toNat) (pR PO)) w (0) (0) 135 [some (.ref r), none, none, none, none, none, none, some (.long (lI t1)), none, some (.long (lI s2)), none, none, none, none, none] [] := by
      intro w pl2 fa2 t1 s2 h1 hB hW hRw hF hpl2 hJ
      have hfr2 : R32 fa2 := by
        rcases hJ with ⟨q, -⟩ | ⟨-, -, q⟩
        · exact ⟨by omega, by omega⟩
        · exact q
      refine v_aload_n C dX3_readMoment_135 rfl ?_
      refine v_lconst C (v := 1) dX3_readMoment_136 rfl ?_
      refine v_ldc2 C (v := 4611686018427387903) (List.mem_of_getElem? (i := 5) rfl) (by decide +kernel) dX3_readMoment_137 ?_
      refine v_callVl C (q := (RX3, TX3, 5)) (As := [_, _]) (rest := []) (c_readCW_U (lo := 1) (hi := 4611686018427387903) h1 hB ⟨hpl2.1, hpl2.2, by omega⟩ hfr2 ⟨by omega, by omega⟩ ⟨by omega, by omega⟩) (cwV 2 hts gX3_readMoment_X3_readCountWithin rfl rfl rfl (by decide +kernel) ⟨Nat.le_of_ble_eq_true rfl, Nat.le_of_ble_eq_true rfl⟩) (h1) rfl rfl rfl (Nat.le_of_ble_eq_true rfl) dX3_readMoment_140 (by dsimp only; omega) (by dsimp only; omega) (fun x_140 w hp => ?_)
      obtain ⟨pl3, fa3, h1, hpl3, hcs3, hF9⟩ := hp
      have hbd3 := rcF_bd (T := T) (N := tz) (a := pl2) (by omega) (by omega)
      have h140 : (fa3 = -1 ∧ 1 ≤ x_140 ∧ x_140 = rcV T tz pl2 ∧ pl3 = rcN T tz pl2 ∧ rcF T tz pl2 = -1 ∧ RR = pmT T tz nw A1 pl2 t1 s2 (ext vf vcap) ∧ pl < pl2) ∨ (fa3 ≠ -1 ∧ RR.1 = fa3 ∧ R32 fa3) := by
        rcases hJ with ⟨q1, q2, q3⟩ | ⟨q1, q2, q3⟩
        · rcases hcs3 with ⟨b0, -⟩ | ⟨b0, ⟨b1, b2, b3⟩ | ⟨b1, b2, b3, ⟨b4, b5⟩ | ⟨b4, b5⟩⟩⟩
          · exact absurd q1 b0
          · exact Or.inr ⟨by omega, by rw [q2, pmT, if_pos b1]; exact b2.symm, ⟨by omega, by omega⟩⟩
          · have h9 := rc_ok (T := T) (N := tz) (a := pl2) (by omega) (by omega) b1
            exact Or.inr ⟨by omega, by rw [q2, pmT, if_neg (fun g => g b1), if_pos (by omega)]; exact b5.symm, ⟨by omega, by omega⟩⟩
          · exact Or.inl ⟨b5, by omega, b2, b3, b1, q2, q3⟩
        · rcases hcs3 with ⟨b0, b1, -, -⟩ | ⟨b0, -⟩
          · exact Or.inr ⟨by omega, by rw [b1]; exact q2, by rw [b1]; exact q3⟩
          · exact absurd b0 q1
      have hx140 : R64 x_140 := by
        have hv9 := fun (q : rcF T tz pl2 = -1) => rc_ok (T := T) (N := tz) (a := pl2) (by omega) (by omega) q
        rcases hcs3 with ⟨-, -, -, b3⟩ | ⟨b0, ⟨b1, b2, b3⟩ | ⟨b1, b2, -⟩⟩
        · exact ⟨by omega, by omega⟩
        · exact ⟨by omega, by omega⟩
        · have := hv9 b1; exact ⟨by omega, by omega⟩
      have hfr3 : R32 fa3 := by
        rcases h140 with ⟨q, -⟩ | ⟨-, -, q⟩
        · exact ⟨by omega, by omega⟩
        · exact q
      have hB := hB.fr hF9 (fun h9 => by have h8 : 4 = 6 := h9; omega) (fun h9 => by have h8 : 4 + 1 = 6 := h9; omega)
      have hW := hW.fr hF9 (fun h9 => by have h8 : 2 = 6 := h9; omega) (fun h9 => by have h8 : 3 = 6 := h9; omega)
      have hRw := hRw.fr hF9 (fun h9 => by have h8 : TR = 6 := h9; omega) (fun h9 => by have h8 : TR + 1 = 6 := h9; omega) (fun h9 => by have h8 : TR + 2 = 6 := h9; omega) (fun h9 => by have h8 : TR + 3 = 6 := h9; omega) (fun h9 => by have h8 : TR + 4 = 6 := h9; omega) (fun h9 => by have h8 : TR + 5 = 6 := h9; omega)
      have hF := hF.tr (hF9.mono (fun t h9 => by have h8 : t = 6 := h9; show t = 6 ∨ t = 0; omega))
      refine v_lstore C dX3_readMoment_143 bsj_15_11 (by decide) (Nat.le_of_ble_eq_true rfl) rfl ?_
      have hFa := hF
      refine v_new C (ci := 5) (T := TX2) (N := 4) (Cn := RX2) (fs := [.long (lI 0), .long (lI 0), .null, .int (iI 0)]) (0) tyX2 tyX2_ok rfl (fun _ h => List.mem_cons_of_mem _ (List.mem_append_left _ (List.mem_append_left _ (List.mem_append_left _ (List.mem_append_left _ (List.mem_append_left _ (List.mem_append_right _ (h)))))))) (List.mem_of_getElem? (i := 6) rfl) (List.mem_of_getElem? (i := 7) rfl) (List.mem_of_getElem? (i := 8) rfl) (fun j hj => by rcases (by omega : j = 0 ∨ j = 1 ∨ j = 2 ∨ j = 3) with rfl | rfl | rfl | rfl <;> rfl) (by dsimp only; omega) (by dsimp only; omega) dX3_readMoment_145 (fun a145 ha145 => ?_)
      refine v_fresh ha145 (fun w h145 hF9 hE9 => ?_)
      have h1 := hF9 _ _ _ (fun h9 => h9) h1
      have hB := hB.fr hF9 (fun h9 => h9) (fun h9 => h9)
      have hW := hW.fr hF9 (fun h9 => h9) (fun h9 => h9)
      have hRw := hRw.fr hF9 (fun h9 => h9) (fun h9 => h9) (fun h9 => h9) (fun h9 => h9) (fun h9 => h9) (fun h9 => h9)
      have hF := hF.tr (hF9.mono (fun t h9 => h9.elim))
      have hnw : ∀ t e, w0 a145 = some (t, e) → t = 6 ∨ t = 0 := hFa.none ha145
      refine v_retag h145 (100 + 4 * a145) (fun w h145 hF9 hE9 => ?_)
      have h1 := hF9 _ _ _ (fun h9 => by have h8 : 6 = 0 := h9; omega) h1
      have hB := hB.fr hF9 (fun h9 => by have h8 : 4 = 0 := h9; omega) (fun h9 => by have h8 : 4 + 1 = 0 := h9; omega)
      have hW := hW.fr hF9 (fun h9 => by have h8 : 2 = 0 := h9; omega) (fun h9 => by have h8 : 3 = 0 := h9; omega)
      have hRw := hRw.fr hF9 (fun h9 => by have h8 : TR = 0 := h9; omega) (fun h9 => by have h8 : TR + 1 = 0 := h9; omega) (fun h9 => by have h8 : TR + 2 = 0 := h9; omega) (fun h9 => by have h8 : TR + 3 = 0 := h9; omega) (fun h9 => by have h8 : TR + 4 = 0 := h9; omega) (fun h9 => by have h8 : TR + 5 = 0 := h9; omega)
      have hF := hF.tr (hF9.mono (fun t h9 => by have h8 : t = 0 := h9; show t = 6 ∨ t = 0; omega))
      have hF : Fr (fun t => (t = 6 ∨ t = 0) ∨ (100 + 4 * a145 ≤ t ∧ t < 104 + 4 * a145)) w0 w := hF.mono (fun t h9 => Or.inl h9)
      refine v_dup C rfl dX3_readMoment_148 ?_
      refine v_lload C dX3_readMoment_149 rfl ?_
      refine v_lload C dX3_readMoment_151 rfl ?_
      refine v_callI C (ret2 := none) (b := _) (t := 0) (ci := 0) (fs := []) (q := (RX7, TX7, 33)) (As := [_, _]) (rest := [_]) (c_X2_init (pw := pwL []) (vl := vlL []) (bf := fun j => ext vf vcap (pwL [] j)) h145) (cwI 2 hts gX3_readMoment_X2_init rfl rfl rfl (hts _ (List.mem_of_getElem? (i := 8) rfl)) (hts _ (List.mem_of_getElem? (i := 71) rfl)) (hts _ (List.mem_of_getElem? (i := 72) rfl)) rfl (by decide +kernel) ⟨Nat.le_of_ble_eq_true rfl, Nat.le_of_ble_eq_true rfl⟩) rfl rfl (Nat.le_of_ble_eq_true rfl) dX3_readMoment_153 (by dsimp only; omega) (by dsimp only; omega) (fun w hp => ?_)
      obtain ⟨hMo, hF9⟩ := hp
      obtain ⟨lr, LL, hm1, hL, hC⟩ := hMo
      have h1 := hF9 _ _ _ (fun h9 => by have h8 : 6 = 100 + 4 * a145 ∨ 6 = 101 + 4 * a145 := h9; omega) h1
      have hB := hB.fr hF9 (fun h9 => by have h8 : 4 = 100 + 4 * a145 ∨ 4 = 101 + 4 * a145 := h9; omega) (fun h9 => by have h8 : 4 + 1 = 100 + 4 * a145 ∨ 4 + 1 = 101 + 4 * a145 := h9; omega)
      have hW := hW.fr hF9 (fun h9 => by have h8 : 2 = 100 + 4 * a145 ∨ 2 = 101 + 4 * a145 := h9; omega) (fun h9 => by have h8 : 3 = 100 + 4 * a145 ∨ 3 = 101 + 4 * a145 := h9; omega)
      have hRw := hRw.fr hF9 (fun h9 => by have h8 : TR = 100 + 4 * a145 ∨ TR = 101 + 4 * a145 := h9; omega) (fun h9 => by have h8 : TR + 1 = 100 + 4 * a145 ∨ TR + 1 = 101 + 4 * a145 := h9; omega) (fun h9 => by have h8 : TR + 2 = 100 + 4 * a145 ∨ TR + 2 = 101 + 4 * a145 := h9; omega) (fun h9 => by have h8 : TR + 3 = 100 + 4 * a145 ∨ TR + 3 = 101 + 4 * a145 := h9; omega) (fun h9 => by have h8 : TR + 4 = 100 + 4 * a145 ∨ TR + 4 = 101 + 4 * a145 := h9; omega) (fun h9 => by have h8 : TR + 5 = 100 + 4 * a145 ∨ TR + 5 = 101 + 4 * a145 := h9; omega)
      have hF := hF.tr (hF9.mono (fun t h9 => by have h8 : t = 100 + 4 * a145 ∨ t = 101 + 4 * a145 := h9; show (t = 6 ∨ t = 0) ∨ (100 + 4 * a145 ≤ t ∧ t < 104 + 4 * a145); omega))
      refine v_astore C dX3_readMoment_156 bsl_15_13 (by decide) rfl ?_
      refine v_iconst C dX3_readMoment_158 ?_
      refine v_istore C dX3_readMoment_159 bsl_15_14 (by decide) rfl ?_
      have L161 : ∀ (N : Nat) (w : Wd) (k9 pl9 fa9 pz : Int) (S9 : Int → Int) (L : ML2) (LL : Int → Nat), (w r = some (6, .inr (6, [.ref tp, .ref wr, .ref rw, .int (iI pl9), .int (iI fa9)]))) → (BytesAt G w 4 tp tz cap T) → (WiresAt G w wr nw A1) → (RowR G w TR rw bt ml vk len cap9 b n M vcap vf) → (w a145 = some (100 + 4 * a145, .inr (5, [.long (lI t1), .long (lI s2), .ref lr, .int (iI (-1))]))) → (Fr (fun t => (t = 6 ∨ t = 0) ∨ (100 + 4 * a145 ≤ t ∧ t < 104 + 4 * a145)) w0 w) → (0 ≤ pl9 ∧ pl9 ≤ tz) → (0 ≤ k9 ∧ 2 * k9 ≤ cst + 2 ∧ k9 ≤ 1100) → ((fa9 = -1 ∧ k9 = (L.length : Int) ∧ (RR.1 = (pch T tz nw A1 (x_140 - k9) pl9 pz S9).1 ∧ RR.2.1 = (pch T tz nw A1 (x_140 - k9) pl9 pz S9).2.1 ∧ RR.2.2.1 = t1 ∧ RR.2.2.2.1 = s2 ∧ RR.2.2.2.2 = L ++ (pch T tz nw A1 (x_140 - k9) pl9 pz S9).2.2) ∧ pl + 1 + 2 * (L.length : Int) ≤ pl9 ∧ -1 ≤ pz ∧ Srt L.length (pwL L) ∧ (∀ j : Int, 0 ≤ j → j < (L.length : Int) → 0 ≤ vlL L j ∧ vlL L j ≤ 8) ∧ (((L.length : Int) = 0 → pz = -1) ∧ (0 < (L.length : Int) → pz = pwL L (L.length - 1))) ∧ (∀ q, pz < q → S9 q = ext vf vcap q) ∧ ListAt G w (101 + 4 * a145) lr L.length LL ∧ ChAt w (103 + 4 * a145) L.length LL (pwL L) (vlL L) (fun j => ext vf vcap (pwL L j))) ∨ (fa9 ≠ -1 ∧ RR.1 = fa9 ∧ R32 fa9)) → (x_140 - k9).toNat < N → V G p l e { frames := 9, cells := (4 + cst).toNat, slots := (1607 + 800 * cst).toNat, locals := 360 } s m args below meth c (MQW G below args s ((4 + cst).toNat) ((1607 + 800 * cst).toNat) (pR PO)) w ((2 + 2 * k9.toNat)) ((7 + 1550 * k9.toNat)) 161 [some (.ref r), none, none, none, none, none, none, none, none, none, none, some (.long (lI x_140)), none, some (.ref a145), some (.int (iI k9))] [] := by
        intro N
        induction N with
        | zero => intro w k9 pl9 fa9 pz S9 L LL h1 hB hW hRw hm1 hF hpl9 hk9 hI hm; exact absurd hm (Nat.not_lt_zero _)
        | succ N ih =>
          intro w k9 pl9 fa9 pz S9 L LL h1 hB hW hRw hm1 hF hpl9 hk9 hI hm
          refine v_iload C dX3_readMoment_161 rfl ?_
          refine v_i2l C (⟨by omega, by omega⟩) dX3_readMoment_163 ?_
          refine v_lload C dX3_readMoment_164 rfl ?_
          refine v_lcmp_ge C (⟨by omega, by omega⟩) (hx140) (tgt := 205) dX3_readMoment_166 dX3_readMoment_167 (by decide) (fun c_166 => ?_) (fun c_166 => ?_)
          · have hfr9 : R32 fa9 := by
              rcases hI with ⟨q, -⟩ | ⟨-, -, q⟩
              · exact ⟨by omega, by omega⟩
              · exact q
            refine v_aload_n C dX3_readMoment_205 rfl ?_
            refine v_getf C g27 h1 rfl dX3_readMoment_206 ?_
            refine v_iconst C dX3_readMoment_209 ?_
            refine v_icmp_ne C (⟨by omega, by omega⟩) (⟨by omega, by omega⟩) (tgt := 218) dX3_readMoment_210 (by decide) (fun c_210 => ?_) (fun c_210 => ?_)
            · refine v_null C dX3_readMoment_218 ?_
              exact v_aretN C rfl (Or.inl ⟨_, rfl⟩) dX3_readMoment_219 (by omega) (by omega) (by
                  obtain ⟨q1, q2, q3⟩ := hI.resolve_left (fun g => c_210 g.1)
                  exact hPO _ _ ⟨pl9, by rw [q2]; exact h1, hpl9, hF.newM hnw (fun a h => by omega), by rw [q2]; exact q3, Or.inl ⟨by rw [q2]; exact q1, rfl⟩⟩)
            · refine v_aload C dX3_readMoment_213 rfl ?_
              refine v_goto C (tgt := 219) dX3_readMoment_215 (by decide) ?_
              exact v_aret C rfl (Or.inl ⟨_, rfl⟩) dX3_readMoment_219 (by omega) (by omega) (by
                  obtain ⟨hfa9, i2, i3, i4, i5, i6, i7, i8, i9, hL, hC⟩ := hI.resolve_right (fun g => g.1 c_210)
                  obtain ⟨j1, j2, j3, j4, j5⟩ := i3
                  rw [pch_0 (by omega)] at j1 j2 j5
                  rw [List.append_nil] at j5
                  exact hPO _ _ ⟨pl9, by rw [j1, ← hfa9]; exact h1, hpl9, hF.newM hnw (fun a h => by omega), by rw [j1]; exact ⟨by omega, by omega⟩, Or.inr ⟨j1, j2.symm, a145, rfl, hnw, by rw [j3, j4, j5]; exact ⟨lr, LL, hm1, hL, hC⟩, by rw [j5]; exact i6, by rw [j5]; exact i7⟩⟩)
          · refine v_iload C dX3_readMoment_170 rfl ?_
            refine v_aload_n C dX3_readMoment_172 rfl ?_
            refine v_getf C g9 h1 rfl dX3_readMoment_173 ?_
            refine v_getN C g30 hB.lenF.choose_spec rfl dX3_readMoment_176 ?_
            refine v_icmp_ge C (⟨by omega, by omega⟩) (⟨by omega, by omega⟩) (tgt := 205) dX3_readMoment_179 (by decide) (fun c_179 => ?_) (fun c_179 => ?_)
            · have hfr9 : R32 fa9 := by
                rcases hI with ⟨q, -⟩ | ⟨-, -, q⟩
                · exact ⟨by omega, by omega⟩
                · exact q
              refine v_aload_n C dX3_readMoment_205 rfl ?_
              refine v_getf C g27 h1 rfl dX3_readMoment_206 ?_
              refine v_iconst C dX3_readMoment_209 ?_
              refine v_icmp_ne C (⟨by omega, by omega⟩) (⟨by omega, by omega⟩) (tgt := 218) dX3_readMoment_210 (by decide) (fun c_210 => ?_) (fun c_210 => ?_)
              · refine v_null C dX3_readMoment_218 ?_
                exact v_aretN C rfl (Or.inl ⟨_, rfl⟩) dX3_readMoment_219 (by omega) (by omega) (by
                    obtain ⟨q1, q2, q3⟩ := hI.resolve_left (fun g => c_210 g.1)
                    exact hPO _ _ ⟨pl9, by rw [q2]; exact h1, hpl9, hF.newM hnw (fun a h => by omega), by rw [q2]; exact q3, Or.inl ⟨by rw [q2]; exact q1, rfl⟩⟩)
              · (obtain ⟨-, q1, -, q2, -⟩ := hI.resolve_right (fun g => g.1 c_210); omega)
            · have hfr9 : R32 fa9 := by
                rcases hI with ⟨q, -⟩ | ⟨-, -, q⟩
                · exact ⟨by omega, by omega⟩
                · exact q
              refine v_aload_n C dX3_readMoment_182 rfl ?_
              refine v_getf C g27 h1 rfl dX3_readMoment_183 ?_
              refine v_iconst C dX3_readMoment_186 ?_
              refine v_icmp_ne C (⟨by omega, by omega⟩) (⟨by omega, by omega⟩) (tgt := 205) dX3_readMoment_187 (by decide) (fun c_187 => ?_) (fun c_187 => ?_)
              · have hfr9 : R32 fa9 := by
                  rcases hI with ⟨q, -⟩ | ⟨-, -, q⟩
                  · exact ⟨by omega, by omega⟩
                  · exact q
                refine v_aload_n C dX3_readMoment_205 rfl ?_
                refine v_getf C g27 h1 rfl dX3_readMoment_206 ?_
                refine v_iconst C dX3_readMoment_209 ?_
                refine v_icmp_ne C (⟨by omega, by omega⟩) (⟨by omega, by omega⟩) (tgt := 218) dX3_readMoment_210 (by decide) (fun c_210 => ?_) (fun c_210 => ?_)
                · refine v_null C dX3_readMoment_218 ?_
                  exact v_aretN C rfl (Or.inl ⟨_, rfl⟩) dX3_readMoment_219 (by omega) (by omega) (by
                      obtain ⟨q1, q2, q3⟩ := hI.resolve_left (fun g => c_187 g.1)
                      exact hPO _ _ ⟨pl9, by rw [q2]; exact h1, hpl9, hF.newM hnw (fun a h => by omega), by rw [q2]; exact q3, Or.inl ⟨by rw [q2]; exact q1, rfl⟩⟩)
                · exact absurd c_210 c_187
              · obtain ⟨hfa9, i2, i3, i4, i5, i6, i7, i8, i9, hL, hC⟩ := hI.resolve_right (fun g => g.1 c_187)
                have hcs9 : 2 * (L.length : Int) ≤ cst := by
                  by_cases g : RR.1 = -1
                  · have h9 := pch_ok (T := T) (N := tz) (nw := nw) (A1 := A1) hA1 (tz - pl9).toNat (x_140 - k9) pl9 pz S9 (Nat.le_refl _) hpl9.1 hpl9.2 i5 (i3.1.symm.trans g)
                    have h8 := hcst.2.1 g
                    rw [i3.2.1] at h8
                    omega
                  · have := hcst.2.2 g; omega
                refine v_aload_n C dX3_readMoment_190 rfl ?_
                refine v_aload C dX3_readMoment_191 rfl ?_
                refine v_getN C g68 hm1 rfl dX3_readMoment_193 ?_
                refine v_callVv C (q := (RX3, TX3, 5)) (As := [_]) (rest := []) (c_X3_readChange (a := a145) (S := S9) (pz := pz) h1 hB ⟨hpl9.1, hpl9.2, by omega⟩ hfa9 hW hA1 hRw hTR hL hC i6 i8 i9 (by omega)) (cwV 1 hts gX3_readMoment_X3_readChange rfl rfl rfl (by decide +kernel) ⟨Nat.le_of_ble_eq_true rfl, Nat.le_of_ble_eq_true rfl⟩) (h1) rfl rfl rfl (Nat.le_of_ble_eq_true rfl) dX3_readMoment_196 (by dsimp only; omega) (by dsimp only; omega) (fun w hp => ?_)
                obtain ⟨pl5, fa5, h1, hpl5, hcs5, hF9⟩ := hp
                have hB := hB.fr hF9 (fun h9 => by have h8 : 4 = 6 ∨ 4 = 101 + 4 * a145 ∨ 4 = 102 + 4 * a145 ∨ 4 = 0 := h9; omega) (fun h9 => by have h8 : 4 + 1 = 6 ∨ 4 + 1 = 101 + 4 * a145 ∨ 4 + 1 = 102 + 4 * a145 ∨ 4 + 1 = 0 := h9; omega)
                have hW := hW.fr hF9 (fun h9 => by have h8 : 2 = 6 ∨ 2 = 101 + 4 * a145 ∨ 2 = 102 + 4 * a145 ∨ 2 = 0 := h9; omega) (fun h9 => by have h8 : 3 = 6 ∨ 3 = 101 + 4 * a145 ∨ 3 = 102 + 4 * a145 ∨ 3 = 0 := h9; omega)
                have hRw := hRw.fr hF9 (fun h9 => by have h8 : TR = 6 ∨ TR = 101 + 4 * a145 ∨ TR = 102 + 4 * a145 ∨ TR = 0 := h9; omega) (fun h9 => by have h8 : TR + 1 = 6 ∨ TR + 1 = 101 + 4 * a145 ∨ TR + 1 = 102 + 4 * a145 ∨ TR + 1 = 0 := h9; omega) (fun h9 => by have h8 : TR + 2 = 6 ∨ TR + 2 = 101 + 4 * a145 ∨ TR + 2 = 102 + 4 * a145 ∨ TR + 2 = 0 := h9; omega) (fun h9 => by have h8 : TR + 3 = 6 ∨ TR + 3 = 101 + 4 * a145 ∨ TR + 3 = 102 + 4 * a145 ∨ TR + 3 = 0 := h9; omega) (fun h9 => by have h8 : TR + 4 = 6 ∨ TR + 4 = 101 + 4 * a145 ∨ TR + 4 = 102 + 4 * a145 ∨ TR + 4 = 0 := h9; omega) (fun h9 => by have h8 : TR + 5 = 6 ∨ TR + 5 = 101 + 4 * a145 ∨ TR + 5 = 102 + 4 * a145 ∨ TR + 5 = 0 := h9; omega)
                have hm1 := hF9 _ _ _ (fun h9 => by have h8 : 100 + 4 * a145 = 6 ∨ 100 + 4 * a145 = 101 + 4 * a145 ∨ 100 + 4 * a145 = 102 + 4 * a145 ∨ 100 + 4 * a145 = 0 := h9; omega) hm1
                have hF := hF.tr (hF9.mono (fun t h9 => by have h8 : t = 6 ∨ t = 101 + 4 * a145 ∨ t = 102 + 4 * a145 ∨ t = 0 := h9; show (t = 6 ∨ t = 0) ∨ (100 + 4 * a145 ≤ t ∧ t < 104 + 4 * a145); omega))
                refine v_iinc C dX3_readMoment_199 rfl bsl_15_14 (by decide) rfl ?_
                refine v_goto C (tgt := 161) dX3_readMoment_202 (by decide) ?_
                refine v_wide (k' := 2 + 2 * (k9 + 1).toNat) (z' := 7 + 1550 * (k9 + 1).toNat) (by omega) (by omega) ?_
                rcases hcs5 with ⟨g1, g2, g3⟩ | ⟨g1, p3, v3, LL3, g2, g3, g4, g5, g6⟩
                · exact ih w (k9 + 1) pl5 fa5 pz S9 [] LL h1 hB hW hRw hm1 hF hpl5 ⟨by omega, by omega, by omega⟩ (Or.inr ⟨g1, i3.1.trans (g2 _ (by omega)), g3⟩) (by omega)
                · have hgo := g2 (x_140 - k9) (by omega)
                  obtain ⟨j1, j2, j3, j4, j5⟩ := i3
                  rw [hgo] at j1 j2 j5
                  rw [show x_140 - k9 - 1 = x_140 - (k9 + 1) by omega] at j1 j2 j5
                  have el : ((L ++ [(p3, v3)]).length : Int) = L.length + 1 := by rw [List.length_append]; rfl
                  exact ih w (k9 + 1) pl5 fa5 p3 (upI S9 p3 v3) (L ++ [(p3, v3)]) LL3 h1 hB hW hRw hm1 hF hpl5 ⟨by omega, by omega, by omega⟩ (Or.inl ⟨g1, by omega, ⟨j1, j2, j3, j4, by rw [j5, List.append_assoc]; rfl⟩, by omega, by omega, i6.snoc (fun g => by have h9 := i8.2 (by omega); exact h9) ⟨g4.1, g4.2.1, g4.2.2.1⟩, (fun j a b => by
                    by_cases q : j = L.length
                    · rw [q, pwL_at.2]; exact g4.2.2.2
                    · rw [(pwL_lo a (by omega)).2]; exact i7 j a (by omega)), ⟨fun g => by omega, fun _ => by rw [el, show (L.length : Int) + 1 - 1 = L.length by omega, pwL_at.1]⟩, (fun q hq => by rw [upI_ne (by omega)]; exact i9 q (by omega)), g5, g6⟩) (by omega)
      refine v_kill 7 bsk_15_7 ?_
      refine v_kill 9 bsk_15_9 ?_
      refine v_wide (k' := 2 + 2 * (0 : Int).toNat) (z' := 7 + 1550 * (0 : Int).toNat) (by omega) (by omega) ?_
      refine L161 _ w 0 pl3 fa3 (-1) (ext vf vcap) [] LL h1 hB hW hRw hm1 hF hpl3 ⟨by omega, by omega, by omega⟩ ?_ (Nat.lt_succ_self _)
      rcases h140 with ⟨q1, q2, q3, q4, q5, q6, q7⟩ | q
      · have hR5 : RR = ((pch T tz nw A1 x_140 pl3 (-1) (ext vf vcap)).1, (pch T tz nw A1 x_140 pl3 (-1) (ext vf vcap)).2.1, t1, s2, (pch T tz nw A1 x_140 pl3 (-1) (ext vf vcap)).2.2) := by rw [q6, pmT, if_neg (fun g => g q5), if_neg (by omega), ← q4, ← q3]
        have h9 := rc_ok (T := T) (N := tz) (a := pl2) (by omega) (by omega) q5
        exact Or.inl ⟨q1, rfl, ⟨by rw [hR5, Int.sub_zero], by rw [hR5, Int.sub_zero], by rw [hR5], by rw [hR5], by rw [hR5, Int.sub_zero]; rfl⟩, by show pl + 1 + 2 * (0 : Int) ≤ pl3; omega, by omega, ⟨fun j a b => absurd b (by show ¬ j < (0 : Int); omega), fun i j a b c => absurd c (by show ¬ j < (0 : Int); omega)⟩, fun j a b => absurd b (by show ¬ j < (0 : Int); omega), ⟨fun _ => rfl, fun g => absurd g (by show ¬ (0 : Int) < 0; omega)⟩, fun _ _ => rfl, hL, hC⟩
      · exact Or.inr q
    refine v_lload_n C dX3_readMoment_20 rfl ?_
    refine v_lconst C (v := 1) dX3_readMoment_21 rfl ?_
    refine v_land C ((land_1 ⟨by omega, by omega⟩ : lI x_6 &&& lI 1 = lI (x_6 % 2))) dX3_readMoment_22 ?_
    refine v_lconst C (v := 1) dX3_readMoment_23 rfl ?_
    refine v_lcmp_ne C (⟨by omega, by omega⟩) (⟨by omega, by omega⟩) (tgt := 32) dX3_readMoment_24 dX3_readMoment_25 (by decide) (fun c_24 => ?_) (fun c_24 => ?_)
    · have hev : ¬ x_6 % 2 = 1 := by omega
      refine v_iconst C dX3_readMoment_32 ?_
      refine v_istore C dX3_readMoment_33 bsl_15_4 (by decide) rfl ?_
      refine v_lload_n C dX3_readMoment_35 rfl ?_
      refine v_iconst C dX3_readMoment_36 ?_
      refine v_lshr C ((lshr_1 ⟨by omega, by omega⟩ : lI x_6 >>> ((iI 1).toInt64 &&& 63) = lI (x_6 / 2))) dX3_readMoment_37 ?_
      refine v_lstore C dX3_readMoment_38 bsj_15_5 (by decide) (Nat.le_of_ble_eq_true rfl) rfl ?_
      refine v_iload C dX3_readMoment_40 rfl ?_
      refine v_if_eq C (⟨by omega, by omega⟩) (tgt := 55) dX3_readMoment_42 (by decide) (fun c_42 => ?_) (fun c_42 => ?_)
      · refine v_aload_n C dX3_readMoment_55 rfl ?_
        refine v_getf C g19 h1 rfl dX3_readMoment_56 ?_
        refine v_callVl C (q := (RX4, TX4, 3)) (As := []) (rest := []) (c_X4_lastTime hRw hM) (cwV 0 hts gX3_readMoment_X4_lastTime rfl rfl rfl (by decide +kernel) ⟨Nat.le_of_ble_eq_true rfl, Nat.le_of_ble_eq_true rfl⟩) (hRw.obj.choose_spec) rfl rfl rfl (Nat.le_of_ble_eq_true rfl) dX3_readMoment_59 (by dsimp only; omega) (by dsimp only; omega) (fun x_59 w hp => ?_)
        obtain ⟨hx9, rfl⟩ := hp
        rw [hx9, ← hlt]
        refine v_lload C dX3_readMoment_62 rfl ?_
        refine v_ladd C dX3_readMoment_64 ?_
        refine v_lstore C dX3_readMoment_65 bsj_15_7 (by decide) (Nat.le_of_ble_eq_true rfl) rfl ?_
        refine v_iload C dX3_readMoment_67 rfl ?_
        refine v_if_eq C (⟨by omega, by omega⟩) (tgt := 85) dX3_readMoment_69 (by decide) (fun c_69 => ?_) (fun c_69 => ?_)
        · refine v_lconst C (v := 0) dX3_readMoment_85 rfl ?_
          refine v_lstore C dX3_readMoment_86 bsj_15_9 (by decide) (Nat.le_of_ble_eq_true rfl) rfl ?_
          refine v_lload C dX3_readMoment_88 rfl ?_
          refine v_lconst C (v := 0) dX3_readMoment_90 rfl ?_
          refine v_lcmp_eq C (⟨by omega, by omega⟩) (⟨by omega, by omega⟩) (tgt := 113) dX3_readMoment_91 dX3_readMoment_92 (by decide) (fun c_91 => ?_) (fun c_91 => ?_)
          · refine v_aload_n C dX3_readMoment_113 rfl ?_
            refine v_iload_n C dX3_readMoment_114 rfl ?_
            refine v_putf C p27 h1 rfl rfl (Nat.le_of_ble_eq_true rfl) dX3_readMoment_115 ?_
            refine v_upd h1 (fun w h1 hF9 hE9 => ?_)
            have hB := hB.fr hF9 (fun h9 => by have h8 : 4 = 6 := h9; omega) (fun h9 => by have h8 : 4 + 1 = 6 := h9; omega)
            have hW := hW.fr hF9 (fun h9 => by have h8 : 2 = 6 := h9; omega) (fun h9 => by have h8 : 3 = 6 := h9; omega)
            have hRw := hRw.fr hF9 (fun h9 => by have h8 : TR = 6 := h9; omega) (fun h9 => by have h8 : TR + 1 = 6 := h9; omega) (fun h9 => by have h8 : TR + 2 = 6 := h9; omega) (fun h9 => by have h8 : TR + 3 = 6 := h9; omega) (fun h9 => by have h8 : TR + 4 = 6 := h9; omega) (fun h9 => by have h8 : TR + 5 = 6 := h9; omega)
            have hM := hM.fr hF9 (fun h9 => by have h8 : 100 + 4 * M (n - 1) = 6 := h9; omega)
            have hF := hF.tr (hF9.mono (fun t h9 => by have h8 : t = 6 := h9; show t = 6 ∨ t = 0; omega))
            refine v_null C dX3_readMoment_118 ?_
            exact v_aretN C rfl (Or.inl ⟨_, rfl⟩) dX3_readMoment_119 (by omega) (by omega) (by
                have e9 : RR.1 = pl := by rw [hRR, pmo, if_neg (fun g => g c_15), if_pos (by rw [← k1, if_neg hev, if_neg hev]; omega)]
                exact hPO _ _ ⟨pl6, by rw [e9]; exact h1, hpl6, hF.o, by rw [e9]; exact ⟨by omega, by omega⟩, Or.inl ⟨by omega, rfl⟩⟩)
          · refine v_lload C dX3_readMoment_95 rfl ?_
            refine v_ldc2 C (v := 1152921504606846975) (List.mem_of_getElem? (i := 4) rfl) (by decide +kernel) dX3_readMoment_97 ?_
            refine v_lcmp_gt C (⟨by omega, by omega⟩) (⟨by omega, by omega⟩) (tgt := 113) dX3_readMoment_100 dX3_readMoment_101 (by decide) (fun c_100 => ?_) (fun c_100 => ?_)
            · refine v_aload_n C dX3_readMoment_113 rfl ?_
              refine v_iload_n C dX3_readMoment_114 rfl ?_
              refine v_putf C p27 h1 rfl rfl (Nat.le_of_ble_eq_true rfl) dX3_readMoment_115 ?_
              refine v_upd h1 (fun w h1 hF9 hE9 => ?_)
              have hB := hB.fr hF9 (fun h9 => by have h8 : 4 = 6 := h9; omega) (fun h9 => by have h8 : 4 + 1 = 6 := h9; omega)
              have hW := hW.fr hF9 (fun h9 => by have h8 : 2 = 6 := h9; omega) (fun h9 => by have h8 : 3 = 6 := h9; omega)
              have hRw := hRw.fr hF9 (fun h9 => by have h8 : TR = 6 := h9; omega) (fun h9 => by have h8 : TR + 1 = 6 := h9; omega) (fun h9 => by have h8 : TR + 2 = 6 := h9; omega) (fun h9 => by have h8 : TR + 3 = 6 := h9; omega) (fun h9 => by have h8 : TR + 4 = 6 := h9; omega) (fun h9 => by have h8 : TR + 5 = 6 := h9; omega)
              have hM := hM.fr hF9 (fun h9 => by have h8 : 100 + 4 * M (n - 1) = 6 := h9; omega)
              have hF := hF.tr (hF9.mono (fun t h9 => by have h8 : t = 6 := h9; show t = 6 ∨ t = 0; omega))
              refine v_null C dX3_readMoment_118 ?_
              exact v_aretN C rfl (Or.inl ⟨_, rfl⟩) dX3_readMoment_119 (by omega) (by omega) (by
                  have e9 : RR.1 = pl := by rw [hRR, pmo, if_neg (fun g => g c_15), if_pos (by rw [← k1, if_neg hev, if_neg hev]; omega)]
                  exact hPO _ _ ⟨pl6, by rw [e9]; exact h1, hpl6, hF.o, by rw [e9]; exact ⟨by omega, by omega⟩, Or.inl ⟨by omega, rfl⟩⟩)
            · refine v_lload C dX3_readMoment_104 rfl ?_
              refine v_ldc2 C (v := 1152921504606846975) (List.mem_of_getElem? (i := 4) rfl) (by decide +kernel) dX3_readMoment_106 ?_
              refine v_lcmp_le C (⟨by omega, by omega⟩) (⟨by omega, by omega⟩) (tgt := 120) dX3_readMoment_109 dX3_readMoment_110 (by decide) (fun c_109 => ?_) (fun c_109 => ?_)
              · refine v_iload C dX3_readMoment_120 rfl ?_
                refine v_if_ne C (⟨by omega, by omega⟩) (tgt := 135) dX3_readMoment_122 (by decide) (fun c_122 => ?_) (fun c_122 => ?_)
                · exact absurd c_122 (by omega)
                · refine v_aload_n C dX3_readMoment_125 rfl ?_
                  refine v_lconst C (v := 0) dX3_readMoment_126 rfl ?_
                  refine v_ldc2 C (v := 1152921504606846975) (List.mem_of_getElem? (i := 4) rfl) (by decide +kernel) dX3_readMoment_127 ?_
                  refine v_callVl C (q := (RX3, TX3, 5)) (As := [_, _]) (rest := []) (c_X3_readCountWithin (lo := 0) (hi := 1152921504606846975) h1 hB ⟨by omega, by omega, by omega⟩ rfl ⟨by omega, by omega⟩ ⟨by omega, by omega⟩) (cwV 2 hts gX3_readMoment_X3_readCountWithin rfl rfl rfl (by decide +kernel) ⟨Nat.le_of_ble_eq_true rfl, Nat.le_of_ble_eq_true rfl⟩) (h1) rfl rfl rfl (Nat.le_of_ble_eq_true rfl) dX3_readMoment_130 (by dsimp only; omega) (by dsimp only; omega) (fun x_130 w hp => ?_)
                  obtain ⟨pl8, fa8, h1, hpl8, hcs8, hF9⟩ := hp
                  have hbd8 := rcF_bd (T := T) (N := tz) (a := pl6) (by omega) (by omega)
                  have hB := hB.fr hF9 (fun h9 => by have h8 : 4 = 6 := h9; omega) (fun h9 => by have h8 : 4 + 1 = 6 := h9; omega)
                  have hW := hW.fr hF9 (fun h9 => by have h8 : 2 = 6 := h9; omega) (fun h9 => by have h8 : 3 = 6 := h9; omega)
                  have hRw := hRw.fr hF9 (fun h9 => by have h8 : TR = 6 := h9; omega) (fun h9 => by have h8 : TR + 1 = 6 := h9; omega) (fun h9 => by have h8 : TR + 2 = 6 := h9; omega) (fun h9 => by have h8 : TR + 3 = 6 := h9; omega) (fun h9 => by have h8 : TR + 4 = 6 := h9; omega) (fun h9 => by have h8 : TR + 5 = 6 := h9; omega)
                  have hM := hM.fr hF9 (fun h9 => by have h8 : 100 + 4 * M (n - 1) = 6 := h9; omega)
                  have hF := hF.tr (hF9.mono (fun t h9 => by have h8 : t = 6 := h9; show t = 6 ∨ t = 0; omega))
                  refine v_lstore C dX3_readMoment_133 bsj_15_9 (by decide) (Nat.le_of_ble_eq_true rfl) rfl ?_
                  refine v_kill 1 bsk_15_1 ?_
                  refine v_kill 2 bsk_15_2 ?_
                  refine v_kill 4 bsk_15_4 ?_
                  refine v_kill 5 bsk_15_5 ?_
                  have hrc8 := fun (q : rcF T tz pl6 = -1) => rc_ok (T := T) (N := tz) (a := pl6) (by omega) (by omega) q
                  rcases hcs8 with ⟨b1, b2, b3⟩ | ⟨b1, b2, b3, ⟨b4, b5⟩ | ⟨b4, b5⟩⟩
                  · exact J135 w pl8 fa8 _ _ h1 hB hW hRw hF hpl8 (Or.inr ⟨by omega, by rw [hRR, pmo, if_neg (fun g => g c_15), if_neg (by rw [← k1, if_neg hev, if_neg hev]; omega), ← k1, if_neg hev, ← k2, if_pos b1]; exact b2.symm, ⟨by omega, by omega⟩⟩)
                  · have hr8 := hrc8 b1
                    exact J135 w pl8 fa8 _ _ h1 hB hW hRw hF hpl8 (Or.inr ⟨by omega, by rw [hRR, pmo, if_neg (fun g => g c_15), if_neg (by rw [← k1, if_neg hev, if_neg hev]; omega), ← k1, if_neg hev, ← k2, if_neg (fun g => g b1), if_pos (by omega)]; exact b5.symm, ⟨by omega, by omega⟩⟩)
                  · have hr8 := hrc8 b1
                    exact J135 w pl8 fa8 _ _ h1 hB hW hRw hF hpl8 (Or.inl ⟨b5, by rw [hRR, pmo, if_neg (fun g => g c_15), if_neg (by rw [← k1, if_neg hev, if_neg hev]; omega), ← k1, if_neg hev, ← k2, if_neg (fun g => g b1), if_neg (by omega), ← b2, ← b3], by omega⟩)
              · refine v_aload_n C dX3_readMoment_113 rfl ?_
                refine v_iload_n C dX3_readMoment_114 rfl ?_
                refine v_putf C p27 h1 rfl rfl (Nat.le_of_ble_eq_true rfl) dX3_readMoment_115 ?_
                refine v_upd h1 (fun w h1 hF9 hE9 => ?_)
                have hB := hB.fr hF9 (fun h9 => by have h8 : 4 = 6 := h9; omega) (fun h9 => by have h8 : 4 + 1 = 6 := h9; omega)
                have hW := hW.fr hF9 (fun h9 => by have h8 : 2 = 6 := h9; omega) (fun h9 => by have h8 : 3 = 6 := h9; omega)
                have hRw := hRw.fr hF9 (fun h9 => by have h8 : TR = 6 := h9; omega) (fun h9 => by have h8 : TR + 1 = 6 := h9; omega) (fun h9 => by have h8 : TR + 2 = 6 := h9; omega) (fun h9 => by have h8 : TR + 3 = 6 := h9; omega) (fun h9 => by have h8 : TR + 4 = 6 := h9; omega) (fun h9 => by have h8 : TR + 5 = 6 := h9; omega)
                have hM := hM.fr hF9 (fun h9 => by have h8 : 100 + 4 * M (n - 1) = 6 := h9; omega)
                have hF := hF.tr (hF9.mono (fun t h9 => by have h8 : t = 6 := h9; show t = 6 ∨ t = 0; omega))
                refine v_null C dX3_readMoment_118 ?_
                exact v_aretN C rfl (Or.inl ⟨_, rfl⟩) dX3_readMoment_119 (by omega) (by omega) (by
                    have e9 : RR.1 = pl := by rw [hRR, pmo, if_neg (fun g => g c_15), if_pos (by rw [← k1, if_neg hev, if_neg hev]; omega)]
                    exact hPO _ _ ⟨pl6, by rw [e9]; exact h1, hpl6, hF.o, by rw [e9]; exact ⟨by omega, by omega⟩, Or.inl ⟨by omega, rfl⟩⟩)
        · exact absurd c_69 (by omega)
      · exact absurd c_42 (by omega)
    · have hodd : x_6 % 2 = 1 := by omega
      refine v_iconst C dX3_readMoment_28 ?_
      refine v_goto C (tgt := 33) dX3_readMoment_29 (by decide) ?_
      refine v_istore C dX3_readMoment_33 bsl_15_4 (by decide) rfl ?_
      refine v_lload_n C dX3_readMoment_35 rfl ?_
      refine v_iconst C dX3_readMoment_36 ?_
      refine v_lshr C ((lshr_1 ⟨by omega, by omega⟩ : lI x_6 >>> ((iI 1).toInt64 &&& 63) = lI (x_6 / 2))) dX3_readMoment_37 ?_
      refine v_lstore C dX3_readMoment_38 bsj_15_5 (by decide) (Nat.le_of_ble_eq_true rfl) rfl ?_
      refine v_iload C dX3_readMoment_40 rfl ?_
      refine v_if_eq C (⟨by omega, by omega⟩) (tgt := 55) dX3_readMoment_42 (by decide) (fun c_42 => ?_) (fun c_42 => ?_)
      · exact absurd c_42 (by omega)
      · refine v_aload_n C dX3_readMoment_45 rfl ?_
        refine v_getf C g19 h1 rfl dX3_readMoment_46 ?_
        refine v_callVl C (q := (RX4, TX4, 3)) (As := []) (rest := []) (c_X4_lastTime hRw hM) (cwV 0 hts gX3_readMoment_X4_lastTime rfl rfl rfl (by decide +kernel) ⟨Nat.le_of_ble_eq_true rfl, Nat.le_of_ble_eq_true rfl⟩) (hRw.obj.choose_spec) rfl rfl rfl (Nat.le_of_ble_eq_true rfl) dX3_readMoment_49 (by dsimp only; omega) (by dsimp only; omega) (fun x_49 w hp => ?_)
        obtain ⟨hx9, rfl⟩ := hp
        rw [hx9, ← hlt]
        refine v_goto C (tgt := 65) dX3_readMoment_52 (by decide) ?_
        refine v_lstore C dX3_readMoment_65 bsj_15_7 (by decide) (Nat.le_of_ble_eq_true rfl) rfl ?_
        refine v_iload C dX3_readMoment_67 rfl ?_
        refine v_if_eq C (⟨by omega, by omega⟩) (tgt := 85) dX3_readMoment_69 (by decide) (fun c_69 => ?_) (fun c_69 => ?_)
        · exact absurd c_69 (by omega)
        · refine v_aload_n C dX3_readMoment_72 rfl ?_
          refine v_getf C g19 h1 rfl dX3_readMoment_73 ?_
          refine v_callVl C (q := (RX4, TX4, 3)) (As := []) (rest := []) (c_X4_lastStep hRw hM) (cwV 0 hts gX3_readMoment_X4_lastStep rfl rfl rfl (by decide +kernel) ⟨Nat.le_of_ble_eq_true rfl, Nat.le_of_ble_eq_true rfl⟩) (hRw.obj.choose_spec) rfl rfl rfl (Nat.le_of_ble_eq_true rfl) dX3_readMoment_76 (by dsimp only; omega) (by dsimp only; omega) (fun x_76 w hp => ?_)
          obtain ⟨hx9, rfl⟩ := hp
          rw [hx9, ← hls]
          refine v_lload C dX3_readMoment_79 rfl ?_
          refine v_ladd C dX3_readMoment_81 ?_
          refine v_goto C (tgt := 86) dX3_readMoment_82 (by decide) ?_
          refine v_lstore C dX3_readMoment_86 bsj_15_9 (by decide) (Nat.le_of_ble_eq_true rfl) rfl ?_
          refine v_lload C dX3_readMoment_88 rfl ?_
          refine v_lconst C (v := 0) dX3_readMoment_90 rfl ?_
          refine v_lcmp_eq C (⟨by omega, by omega⟩) (⟨by omega, by omega⟩) (tgt := 113) dX3_readMoment_91 dX3_readMoment_92 (by decide) (fun c_91 => ?_) (fun c_91 => ?_)
          · refine v_aload_n C dX3_readMoment_113 rfl ?_
            refine v_iload_n C dX3_readMoment_114 rfl ?_
            refine v_putf C p27 h1 rfl rfl (Nat.le_of_ble_eq_true rfl) dX3_readMoment_115 ?_
            refine v_upd h1 (fun w h1 hF9 hE9 => ?_)
            have hB := hB.fr hF9 (fun h9 => by have h8 : 4 = 6 := h9; omega) (fun h9 => by have h8 : 4 + 1 = 6 := h9; omega)
            have hW := hW.fr hF9 (fun h9 => by have h8 : 2 = 6 := h9; omega) (fun h9 => by have h8 : 3 = 6 := h9; omega)
            have hRw := hRw.fr hF9 (fun h9 => by have h8 : TR = 6 := h9; omega) (fun h9 => by have h8 : TR + 1 = 6 := h9; omega) (fun h9 => by have h8 : TR + 2 = 6 := h9; omega) (fun h9 => by have h8 : TR + 3 = 6 := h9; omega) (fun h9 => by have h8 : TR + 4 = 6 := h9; omega) (fun h9 => by have h8 : TR + 5 = 6 := h9; omega)
            have hM := hM.fr hF9 (fun h9 => by have h8 : 100 + 4 * M (n - 1) = 6 := h9; omega)
            have hF := hF.tr (hF9.mono (fun t h9 => by have h8 : t = 6 := h9; show t = 6 ∨ t = 0; omega))
            refine v_null C dX3_readMoment_118 ?_
            exact v_aretN C rfl (Or.inl ⟨_, rfl⟩) dX3_readMoment_119 (by omega) (by omega) (by
                have e9 : RR.1 = pl := by rw [hRR, pmo, if_neg (fun g => g c_15), if_pos (by rw [← k1, if_pos hodd, if_pos hodd]; omega)]
                exact hPO _ _ ⟨pl6, by rw [e9]; exact h1, hpl6, hF.o, by rw [e9]; exact ⟨by omega, by omega⟩, Or.inl ⟨by omega, rfl⟩⟩)
          · refine v_lload C dX3_readMoment_95 rfl ?_
            refine v_ldc2 C (v := 1152921504606846975) (List.mem_of_getElem? (i := 4) rfl) (by decide +kernel) dX3_readMoment_97 ?_
            refine v_lcmp_gt C (⟨by omega, by omega⟩) (⟨by omega, by omega⟩) (tgt := 113) dX3_readMoment_100 dX3_readMoment_101 (by decide) (fun c_100 => ?_) (fun c_100 => ?_)
            · refine v_aload_n C dX3_readMoment_113 rfl ?_
              refine v_iload_n C dX3_readMoment_114 rfl ?_
              refine v_putf C p27 h1 rfl rfl (Nat.le_of_ble_eq_true rfl) dX3_readMoment_115 ?_
              refine v_upd h1 (fun w h1 hF9 hE9 => ?_)
              have hB := hB.fr hF9 (fun h9 => by have h8 : 4 = 6 := h9; omega) (fun h9 => by have h8 : 4 + 1 = 6 := h9; omega)
              have hW := hW.fr hF9 (fun h9 => by have h8 : 2 = 6 := h9; omega) (fun h9 => by have h8 : 3 = 6 := h9; omega)
              have hRw := hRw.fr hF9 (fun h9 => by have h8 : TR = 6 := h9; omega) (fun h9 => by have h8 : TR + 1 = 6 := h9; omega) (fun h9 => by have h8 : TR + 2 = 6 := h9; omega) (fun h9 => by have h8 : TR + 3 = 6 := h9; omega) (fun h9 => by have h8 : TR + 4 = 6 := h9; omega) (fun h9 => by have h8 : TR + 5 = 6 := h9; omega)
              have hM := hM.fr hF9 (fun h9 => by have h8 : 100 + 4 * M (n - 1) = 6 := h9; omega)
              have hF := hF.tr (hF9.mono (fun t h9 => by have h8 : t = 6 := h9; show t = 6 ∨ t = 0; omega))
              refine v_null C dX3_readMoment_118 ?_
              exact v_aretN C rfl (Or.inl ⟨_, rfl⟩) dX3_readMoment_119 (by omega) (by omega) (by
                  have e9 : RR.1 = pl := by rw [hRR, pmo, if_neg (fun g => g c_15), if_pos (by rw [← k1, if_pos hodd, if_pos hodd]; omega)]
                  exact hPO _ _ ⟨pl6, by rw [e9]; exact h1, hpl6, hF.o, by rw [e9]; exact ⟨by omega, by omega⟩, Or.inl ⟨by omega, rfl⟩⟩)
            · refine v_lload C dX3_readMoment_104 rfl ?_
              refine v_ldc2 C (v := 1152921504606846975) (List.mem_of_getElem? (i := 4) rfl) (by decide +kernel) dX3_readMoment_106 ?_
              refine v_lcmp_le C (⟨by omega, by omega⟩) (⟨by omega, by omega⟩) (tgt := 120) dX3_readMoment_109 dX3_readMoment_110 (by decide) (fun c_109 => ?_) (fun c_109 => ?_)
              · refine v_iload C dX3_readMoment_120 rfl ?_
                refine v_if_ne C (⟨by omega, by omega⟩) (tgt := 135) dX3_readMoment_122 (by decide) (fun c_122 => ?_) (fun c_122 => ?_)
                · refine v_kill 1 bsk_15_1 ?_
                  refine v_kill 2 bsk_15_2 ?_
                  refine v_kill 4 bsk_15_4 ?_
                  refine v_kill 5 bsk_15_5 ?_
                  exact J135 w pl6 (-1) lt9 (ls9 + x_6 / 2) h1 hB hW hRw hF ⟨by omega, by omega⟩ (Or.inl ⟨rfl, by rw [hRR, pmo, if_neg (fun g => g c_15), if_neg (by rw [← k1, if_pos hodd, if_pos hodd]; omega), ← k1, if_pos hodd, ← k2], by omega⟩)
                · exact absurd c_122 (by omega)
              · refine v_aload_n C dX3_readMoment_113 rfl ?_
                refine v_iload_n C dX3_readMoment_114 rfl ?_
                refine v_putf C p27 h1 rfl rfl (Nat.le_of_ble_eq_true rfl) dX3_readMoment_115 ?_
                refine v_upd h1 (fun w h1 hF9 hE9 => ?_)
                have hB := hB.fr hF9 (fun h9 => by have h8 : 4 = 6 := h9; omega) (fun h9 => by have h8 : 4 + 1 = 6 := h9; omega)
                have hW := hW.fr hF9 (fun h9 => by have h8 : 2 = 6 := h9; omega) (fun h9 => by have h8 : 3 = 6 := h9; omega)
                have hRw := hRw.fr hF9 (fun h9 => by have h8 : TR = 6 := h9; omega) (fun h9 => by have h8 : TR + 1 = 6 := h9; omega) (fun h9 => by have h8 : TR + 2 = 6 := h9; omega) (fun h9 => by have h8 : TR + 3 = 6 := h9; omega) (fun h9 => by have h8 : TR + 4 = 6 := h9; omega) (fun h9 => by have h8 : TR + 5 = 6 := h9; omega)
                have hM := hM.fr hF9 (fun h9 => by have h8 : 100 + 4 * M (n - 1) = 6 := h9; omega)
                have hF := hF.tr (hF9.mono (fun t h9 => by have h8 : t = 6 := h9; show t = 6 ∨ t = 0; omega))
                refine v_null C dX3_readMoment_118 ?_
                exact v_aretN C rfl (Or.inl ⟨_, rfl⟩) dX3_readMoment_119 (by omega) (by omega) (by
                    have e9 : RR.1 = pl := by rw [hRR, pmo, if_neg (fun g => g c_15), if_pos (by rw [← k1, if_pos hodd, if_pos hodd]; omega)]
                    exact hPO _ _ ⟨pl6, by rw [e9]; exact h1, hpl6, hF.o, by rw [e9]; exact ⟨by omega, by omega⟩, Or.inl ⟨by omega, rfl⟩⟩)
  · refine v_null C dX3_readMoment_18 ?_
    exact v_aretN C rfl (Or.inl ⟨_, rfl⟩) dX3_readMoment_19 (by omega) (by omega) (hPO _ _ ⟨pl6, by rw [hRR0 c_15]; exact h1, hpl6, hF.o, by rw [hRR0 c_15]; exact ⟨by omega, by omega⟩, Or.inl ⟨by rw [hRR0 c_15]; exact c_15, rfl⟩⟩)
