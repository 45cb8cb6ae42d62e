theorem bsj_16_5 {x0 x1 x2 x3 x4 x5 x6 x7 x8 x9 x10 x11 x12 x13 x14 x15 : Option Value} {v : Value} : stJ [x0, x1, x2, x3, x4, x5, x6, x7, x8, x9, x10, x11, x12, x13, x14, x15] 5 v = [x0, x1, x2, x3, x4, some v, none, x7, x8, x9, x10, x11, x12, x13, x14, x15] := rfl
theorem bsj_16_8 {x0 x1 x2 x3 x4 x5 x6 x7 x8 x9 x10 x11 x12 x13 x14 x15 : Option Value} {v : Value} : stJ [x0, x1, x2, x3, x4, x5, x6, x7, x8, x9, x10, x11, x12, x13, x14, x15] 8 v = [x0, x1, x2, x3, x4, x5, x6, x7, some v, none, x10, x11, x12, x13, x14, x15] := rfl
theorem bsj_16_11 {x0 x1 x2 x3 x4 x5 x6 x7 x8 x9 x10 x11 x12 x13 x14 x15 : Option Value} {v : Value} : stJ [x0, x1, x2, x3, x4, x5, x6, x7, x8, x9, x10, x11, x12, x13, x14, x15] 11 v = [x0, x1, x2, x3, x4, x5, x6, x7, x8, x9, x10, some v, none, x13, x14, x15] := rfl
theorem bsk_16_2 {x0 x1 x2 x3 x4 x5 x6 x7 x8 x9 x10 x11 x12 x13 x14 x15 : Option Value} : stK [x0, x1, x2, x3, x4, x5, x6, x7, x8, x9, x10, x11, x12, x13, x14, x15] 2 = [x0, x1, none, x3, x4, x5, x6, x7, x8, x9, x10, x11, x12, x13, x14, x15] := rfl
theorem bsk_16_3 {x0 x1 x2 x3 x4 x5 x6 x7 x8 x9 x10 x11 x12 x13 x14 x15 : Option Value} : stK [x0, x1, x2, x3, x4, x5, x6, x7, x8, x9, x10, x11, x12, x13, x14, x15] 3 = [x0, x1, x2, none, x4, x5, x6, x7, x8, x9, x10, x11, x12, x13, x14, x15] := rfl
theorem bsk_16_8 {x0 x1 x2 x3 x4 x5 x6 x7 x8 x9 x10 x11 x12 x13 x14 x15 : Option Value} : stK [x0, x1, x2, x3, x4, x5, x6, x7, x8, x9, x10, x11, x12, x13, x14, x15] 8 = [x0, x1, x2, x3, x4, x5, x6, x7, none, x9, x10, x11, x12, x13, x14, x15] := rfl
theorem bsl_16_2 {x0 x1 x2 x3 x4 x5 x6 x7 x8 x9 x10 x11 x12 x13 x14 x15 : Option Value} {v : Value} : stL [x0, x1, x2, x3, x4, x5, x6, x7, x8, x9, x10, x11, x12, x13, x14, x15] 2 v = [x0, x1, some v, x3, x4, x5, x6, x7, x8, x9, x10, x11, x12, x13, x14, x15] := rfl
theorem bsl_16_3 {x0 x1 x2 x3 x4 x5 x6 x7 x8 x9 x10 x11 x12 x13 x14 x15 : Option Value} {v : Value} : stL [x0, x1, x2, x3, x4, x5, x6, x7, x8, x9, x10, x11, x12, x13, x14, x15] 3 v = [x0, x1, x2, some v, x4, x5, x6, x7, x8, x9, x10, x11, x12, x13, x14, x15] := rfl
theorem bsl_16_4 {x0 x1 x2 x3 x4 x5 x6 x7 x8 x9 x10 x11 x12 x13 x14 x15 : Option Value} {v : Value} : stL [x0, x1, x2, x3, x4, x5, x6, x7, x8, x9, x10, x11, x12, x13, x14, x15] 4 v = [x0, x1, x2, x3, some v, x5, x6, x7, x8, x9, x10, x11, x12, x13, x14, x15] := rfl
theorem bsl_16_7 {x0 x1 x2 x3 x4 x5 x6 x7 x8 x9 x10 x11 x12 x13 x14 x15 : Option Value} {v : Value} : stL [x0, x1, x2, x3, x4, x5, x6, x7, x8, x9, x10, x11, x12, x13, x14, x15] 7 v = [x0, x1, x2, x3, x4, x5, x6, some v, x8, x9, x10, x11, x12, x13, x14, x15] := rfl
theorem bsl_16_10 {x0 x1 x2 x3 x4 x5 x6 x7 x8 x9 x10 x11 x12 x13 x14 x15 : Option Value} {v : Value} : stL [x0, x1, x2, x3, x4, x5, x6, x7, x8, x9, x10, x11, x12, x13, x14, x15] 10 v = [x0, x1, x2, x3, x4, x5, x6, x7, x8, x9, some v, x11, x12, x13, x14, x15] := rfl
theorem bsl_16_13 {x0 x1 x2 x3 x4 x5 x6 x7 x8 x9 x10 x11 x12 x13 x14 x15 : Option Value} {v : Value} : stL [x0, x1, x2, x3, x4, x5, x6, x7, x8, x9, x10, x11, x12, x13, x14, x15] 13 v = [x0, x1, x2, x3, x4, x5, x6, x7, x8, x9, x10, x11, x12, some v, x14, x15] := rfl
theorem bsl_16_14 {x0 x1 x2 x3 x4 x5 x6 x7 x8 x9 x10 x11 x12 x13 x14 x15 : Option Value} {v : Value} : stL [x0, x1, x2, x3, x4, x5, x6, x7, x8, x9, x10, x11, x12, x13, x14, x15] 14 v = [x0, x1, x2, x3, x4, x5, x6, x7, x8, x9, x10, x11, x12, x13, some v, x15] := rfl
theorem bsl_16_15 {x0 x1 x2 x3 x4 x5 x6 x7 x8 x9 x10 x11 x12 x13 x14 x15 : Option Value} {v : Value} : stL [x0, x1, x2, x3, x4, x5, x6, x7, x8, x9, x10, x11, x12, x13, x14, x15] 15 v = [x0, x1, x2, x3, x4, x5, x6, x7, x8, x9, x10, x11, x12, x13, x14, some v] := rfl
set_option maxRecDepth 100000 in
set_option maxHeartbeats 400000 in
theorem c_X3_readChange {G : GG} {l : Launch} {w : Wd} {r : Nat} {tp wr rw : Nat} {tz cap pl fa : Int} {T : Int → Int} {TR bt ml vk a lr : Nat} {len cap9 n vcap nw pz : Int} {b vf A1 S : Int → Int} {M LL : Int → Nat} {L : List (Int × Int)} (h1 : w r = some (6, .inr (6, [.ref tp, .ref wr, .ref rw, .int (iI pl), .int (iI fa)]))) (hB : BytesAt G w 4 tp tz cap T) (hpl : 0 ≤ pl ∧ pl ≤ tz ∧ tz ≤ 60000) (hf : fa = -1) (hW : WiresAt G w wr nw A1) (hA1 : ∀ i, 0 ≤ i → i < nw → 1 ≤ A1 i ∧ A1 i ≤ 64) (hRw : RowR G w TR rw bt ml vk len cap9 b n M vcap vf) (hTR : 6 < TR ∧ TR < 90) (hL : ListAt G w (101 + 4 * a) lr L.length LL) (hC : ChAt w (103 + 4 * a) L.length LL (pwL L) (vlL L) (fun j => ext vf vcap (pwL L j))) (hS : Srt L.length (pwL L)) (hpz : ((L.length : Int) = 0 → pz = -1) ∧ (0 < (L.length : Int) → pz = pwL L (L.length - 1))) (hSS : ∀ q, pz < q → S q = ext vf vcap q) (hLn : (L.length : Int) ≤ 10000000) : MG G l yX3_readChange wsX3_readChange 8 320 (2) ((L.length + L.length / 2 + 14)) [.ref r, .ref lr] w (pV (fun (w' : Wd) => ∃ pl3 fa3, w' r = some (6, .inr (6, [.ref tp, .ref wr, .ref rw, .int (iI pl3), .int (iI fa3)])) ∧ (0 ≤ pl3 ∧ pl3 ≤ tz) ∧ ((fa3 ≠ -1 ∧ (∀ n9, ¬ n9 ≤ 0 → (pch T tz nw A1 n9 pl pz S).1 = fa3) ∧ R32 fa3) ∨ (fa3 = -1 ∧ ∃ p3 v3 LL2, (∀ n9, ¬ n9 ≤ 0 → pch T tz nw A1 n9 pl pz S = ((pch T tz nw A1 (n9 - 1) pl3 p3 (upI S p3 v3)).1, (pch T tz nw A1 (n9 - 1) pl3 p3 (upI S p3 v3)).2.1, (p3, v3) :: (pch T tz nw A1 (n9 - 1) pl3 p3 (upI S p3 v3)).2.2)) ∧ pl + 2 ≤ pl3 ∧ (pz < p3 ∧ 0 ≤ p3 ∧ p3 < 12800 ∧ 0 ≤ v3 ∧ v3 ≤ 8) ∧ ListAt G w' (101 + 4 * a) lr ((L ++ [(p3, v3)]).length : Nat) LL2 ∧ ChAt w' (103 + 4 * a) ((L ++ [(p3, v3)]).length : Nat) LL2 (pwL (L ++ [(p3, v3)])) (vlL (L ++ [(p3, v3)])) (fun j => ext vf vcap (pwL (L ++ [(p3, v3)]) j)))) ∧ Fr (fun t => t = 6 ∨ t = 101 + 4 * a ∨ t = 102 + 4 * a ∨ t = 0) w w')) := by
  refine MG.of (cc := cX3_readChange) (nL := 16) (ret := none) (ll := [some (.ref r), some (.ref lr), none, none, none, none, none, none, none, none, none, none, none, none, none, none]) (by decide) rfl (Nat.le_of_ble_eq_true rfl) rfl ?_
  intro p e s m args below meth c C
  have hts := C.2.2.2.2.1
  have g15 : GetF G s m args 15 6 1 := getF_of C 6 1 (T := TX3) (N := 5) (Cn := RX3) (ref := "TraceBook$Reader") rfl (by decide) (fun _ h => List.mem_cons_of_mem _ (List.mem_append_left _ (List.mem_append_left _ (List.mem_append_left _ (List.mem_append_left _ (List.mem_append_right _ (h))))))) (List.mem_of_getElem? (i := 2) rfl) (fun _ h => h)
  have g98 : GetN G s m args 98 8 1 := getN_of C 8 1 (T := TX5) (N := 2) (Cn := RX5) (ref := "TraceBook$Wires") rfl (by decide) (fun _ h => List.mem_cons_of_mem _ (List.mem_append_left _ (List.mem_append_left _ (List.mem_append_left _ (List.mem_append_right _ (h)))))) (List.mem_of_getElem? (i := 18) rfl) (fun _ h => h)
  have g23 : GetF G s m args 23 6 3 := getF_of C 6 3 (T := TX3) (N := 5) (Cn := RX3) (ref := "TraceBook$Reader") rfl (by decide) (fun _ h => List.mem_cons_of_mem _ (List.mem_append_left _ (List.mem_append_left _ (List.mem_append_left _ (List.mem_append_left _ (List.mem_append_right _ (h))))))) (List.mem_of_getElem? (i := 3) rfl) (fun _ h => h)
  have g27 : GetF G s m args 27 6 4 := getF_of C 6 4 (T := TX3) (N := 5) (Cn := RX3) (ref := "TraceBook$Reader") rfl (by decide) (fun _ h => List.mem_cons_of_mem _ (List.mem_append_left _ (List.mem_append_left _ (List.mem_append_left _ (List.mem_append_left _ (List.mem_append_right _ (h))))))) (List.mem_of_getElem? (i := 4) rfl) (fun _ h => h)
  have p27 : PutF G s m args 27 6 4 (.int) := putF_of C 6 4 tyX3 tyX3_ok nmX3 (T := TX3) (N := 5) (Cn := RX3) (ref := "TraceBook$Reader") rfl (by decide) (fun _ h => List.mem_cons_of_mem _ (List.mem_append_left _ (List.mem_append_left _ (List.mem_append_left _ (List.mem_append_left _ (List.mem_append_right _ (h))))))) (List.mem_of_getElem? (i := 4) rfl) (fun _ h => h) rfl (by decide +kernel)
  have g19 : GetF G s m args 19 6 2 := getF_of C 6 2 (T := TX3) (N := 5) (Cn := RX3) (ref := "TraceBook$Reader") rfl (by decide) (fun _ h => List.mem_cons_of_mem _ (List.mem_append_left _ (List.mem_append_left _ (List.mem_append_left _ (List.mem_append_left _ (List.mem_append_right _ (h))))))) (List.mem_of_getElem? (i := 6) rfl) (fun _ h => h)
  have g92 : GetN G s m args 92 4 0 := getN_of C 4 0 (T := TX1) (N := 4) (Cn := RX1) (ref := "TraceBook$Change") rfl (by decide) (fun _ h => List.mem_cons_of_mem _ (List.mem_append_left _ (List.mem_append_left _ (List.mem_append_left _ (List.mem_append_left _ (List.mem_append_left _ (List.mem_append_right _ (h)))))))) (List.mem_of_getElem? (i := 16) rfl) (fun _ h => h)
  have g95 : GetN G s m args 95 4 1 := getN_of C 4 1 (T := TX1) (N := 4) (Cn := RX1) (ref := "TraceBook$Change") rfl (by decide) (fun _ h => List.mem_cons_of_mem _ (List.mem_append_left _ (List.mem_append_left _ (List.mem_append_left _ (List.mem_append_left _ (List.mem_append_left _ (List.mem_append_right _ (h)))))))) (List.mem_of_getElem? (i := 17) rfl) (fun _ h => h)
  refine poV (P := fun PO => V G p l e _ s m args below meth c (MQW G below args s _ _ (pV PO)) w 0 0 0 _ []) (fun PO hPO => ?_)
  obtain ⟨w0, hw0⟩ : ∃ z, z = w := ⟨_, rfl⟩
  rw [← hw0] at hPO
  have hF : Fr (fun t => t = 6 ∨ t = 101 + 4 * a ∨ t = 102 + 4 * a ∨ t = 0) w0 w := by rw [hw0]; exact Fr.rf
  have J52 : ∀ (lw le : Int), ((pz < 0 ∧ lw = 0 ∧ le = -1) ∨ (0 ≤ pz ∧ lw = pz / 64 ∧ le = pz % 64)) → V G p l e { frames := 8, cells := 2, slots := (L.length + L.length / 2 + 14), locals := 320 } s m args below meth c (MQW G below args s (2) ((L.length + L.length / 2 + 14)) (pV PO)) w (0) (0) 52 [some (.ref r), some (.ref lr), none, some (.int (iI lw)), some (.int (iI le)), none, none, none, none, none, none, none, none, none, none, none] [] := by
    intro lw le hp4
    have hnw := hW.fr (S := fun _ => False) (w2 := w) (fun _ _ _ _ h => h) (fun h => h) (fun h => h)
    obtain ⟨kq9, fq9, hw91, hw92, hw93, hw94⟩ := hnw
    have hq9 : lw = (if pz < 0 then 0 else pz / 64) := by
      by_cases g : pz < 0
      · rw [if_pos g]; omega
      · rw [if_neg g]; omega
    have hpzr : -1 ≤ pz ∧ pz < 12800 := by
      by_cases g : (L.length : Int) = 0
      · have := hpz.1 g; omega
      · have h7 := hpz.2 (by omega)
        have h8 := hS.1 (L.length - 1) (by omega) (by omega)
        omega
    refine v_aload_n C dX3_readChange_52 rfl ?_
    refine v_lconst C (v := 0) dX3_readChange_53 rfl ?_
    refine v_aload_n C dX3_readChange_54 rfl ?_
    refine v_getf C g15 h1 rfl dX3_readChange_55 ?_
    refine v_getN C g98 hW.cntF.choose_spec rfl dX3_readChange_58 ?_
    refine v_iconst C dX3_readChange_61 ?_
    refine v_isub C dX3_readChange_62 ?_
    refine v_iload_n C dX3_readChange_63 rfl ?_
    refine v_isub C dX3_readChange_64 ?_
    refine v_i2l C (⟨by omega, by omega⟩) dX3_readChange_65 ?_
    refine v_callVl C (q := (RX3, TX3, 5)) (As := [_, _]) (rest := []) (c_X3_readCountWithin (lo := 0) (hi := nw - 1 - lw) h1 hB hpl hf ⟨by omega, by omega⟩ ⟨by omega, by omega⟩) (cwV 2 hts gX3_readChange_X3_readCountWithin rfl rfl rfl (by decide +kernel) ⟨Nat.le_of_ble_eq_true rfl, Nat.le_of_ble_eq_true rfl⟩) (h1) rfl rfl rfl (Nat.le_of_ble_eq_true rfl) dX3_readChange_66 (by dsimp only; omega) (by dsimp only; omega) (fun x_66 w hp => ?_)
    obtain ⟨pl2, fa2, h1, hpl2, hcs, hF9⟩ := hp
    have hbd := rcF_bd (T := T) (N := tz) (a := pl) (by omega) (by omega)
    have hfr2 : R32 fa2 := by rcases hcs with ⟨a1, a2, a3⟩ | ⟨a1, a2, a3, ⟨a4, a5⟩ | ⟨a4, a5⟩⟩ <;> exact ⟨by omega, by omega⟩
    have hB := hB.fr hF9 (fun h9 => by have h8 : 4 = 6 := h9; omega) (fun h9 => by have h8 : 4 + 1 = 6 := h9; omega)
    have hW := hW.fr hF9 (fun h9 => by have h8 : 2 = 6 := h9; omega) (fun h9 => by have h8 : 3 = 6 := h9; omega)
    have hRw := hRw.fr hF9 (fun h9 => by have h8 : TR = 6 := h9; omega) (fun h9 => by have h8 : TR + 1 = 6 := h9; omega) (fun h9 => by have h8 : TR + 2 = 6 := h9; omega) (fun h9 => by have h8 : TR + 3 = 6 := h9; omega) (fun h9 => by have h8 : TR + 4 = 6 := h9; omega) (fun h9 => by have h8 : TR + 5 = 6 := h9; omega)
    have hL := hL.fr hF9 (fun h9 => by have h8 : 101 + 4 * a = 6 := h9; omega) (fun h9 => by have h8 : 101 + 4 * a + 1 = 6 := h9; omega)
    have hC := hC.fr hF9 (fun h9 => by have h8 : 103 + 4 * a = 6 := h9; omega)
    have hF := hF.tr (hF9.mono (fun t h9 => by have h8 : t = 6 := h9; show t = 6 ∨ t = 101 + 4 * a ∨ t = 102 + 4 * a ∨ t = 0; omega))
    refine v_lstore C dX3_readChange_69 bsj_16_5 (by decide) (Nat.le_of_ble_eq_true rfl) rfl ?_
    refine v_aload_n C dX3_readChange_71 rfl ?_
    refine v_getf C g23 h1 rfl dX3_readChange_72 ?_
    refine v_istore C dX3_readChange_75 bsl_16_7 (by decide) rfl ?_
    refine v_aload_n C dX3_readChange_77 rfl ?_
    refine v_callVl C (q := (RX3, TX3, 5)) (As := []) (rest := []) (c_readCount_U h1 hB ⟨hpl2.1, hpl2.2, hpl.2.2⟩ hfr2) (cwV 0 hts gX3_readChange_X3_readCount rfl rfl rfl (by decide +kernel) ⟨Nat.le_of_ble_eq_true rfl, Nat.le_of_ble_eq_true rfl⟩) (h1) rfl rfl rfl (Nat.le_of_ble_eq_true rfl) dX3_readChange_78 (by dsimp only; omega) (by dsimp only; omega) (fun x_78 w hp => ?_)
    obtain ⟨pl3, fa3, h1, hpl3, hcs3, hF9⟩ := hp
    have hbd3 := rcF_bd (T := T) (N := tz) (a := pl2) (by omega) (by omega)
    have hfr3 : R32 fa3 := by rcases hcs3 with ⟨a1, a2, a3⟩ | ⟨a1, a2, a3⟩ <;> exact ⟨by omega, by omega⟩
    have hB := hB.fr hF9 (fun h9 => by have h8 : 4 = 6 := h9; omega) (fun h9 => by have h8 : 4 + 1 = 6 := h9; omega)
    have hW := hW.fr hF9 (fun h9 => by have h8 : 2 = 6 := h9; omega) (fun h9 => by have h8 : 3 = 6 := h9; omega)
    have hRw := hRw.fr hF9 (fun h9 => by have h8 : TR = 6 := h9; omega) (fun h9 => by have h8 : TR + 1 = 6 := h9; omega) (fun h9 => by have h8 : TR + 2 = 6 := h9; omega) (fun h9 => by have h8 : TR + 3 = 6 := h9; omega) (fun h9 => by have h8 : TR + 4 = 6 := h9; omega) (fun h9 => by have h8 : TR + 5 = 6 := h9; omega)
    have hL := hL.fr hF9 (fun h9 => by have h8 : 101 + 4 * a = 6 := h9; omega) (fun h9 => by have h8 : 101 + 4 * a + 1 = 6 := h9; omega)
    have hC := hC.fr hF9 (fun h9 => by have h8 : 103 + 4 * a = 6 := h9; omega)
    have hF := hF.tr (hF9.mono (fun t h9 => by have h8 : t = 6 := h9; show t = 6 ∨ t = 101 + 4 * a ∨ t = 102 + 4 * a ∨ t = 0; omega))
    refine v_lstore C dX3_readChange_81 bsj_16_8 (by decide) (Nat.le_of_ble_eq_true rfl) rfl ?_
    refine v_aload_n C dX3_readChange_83 rfl ?_
    refine v_getf C g27 h1 rfl dX3_readChange_84 ?_
    refine v_iconst C dX3_readChange_87 ?_
    refine v_icmp_eq C (⟨by omega, by omega⟩) (⟨by omega, by omega⟩) (tgt := 92) dX3_readChange_88 (by decide) (fun c_88 => ?_) (fun c_88 => ?_)
    · have hgd : rcF T tz pl = -1 ∧ x_66 = rcV T tz pl ∧ pl2 = rcN T tz pl ∧ x_66 ≤ nw - 1 - lw ∧ rcF T tz pl2 = -1 ∧ x_78 = rcV T tz pl2 ∧ pl3 = rcN T tz pl2 := by
        rcases hcs3 with ⟨a1, a2, a3⟩ | ⟨a1, a2, a3, a4⟩
        · omega
        · rcases hcs with ⟨b1, b2, b3⟩ | ⟨b1, b2, b3, ⟨b4, b5⟩ | ⟨b4, b5⟩⟩
          · omega
          · omega
          · have g := a3 (by omega)
            exact ⟨b1, b2, b3, by omega, by omega, g.1, g.2⟩
      obtain ⟨g1, g2, g3, g4, g5, g6, g7⟩ := hgd
      have hr1 := rc_ok (T := T) (N := tz) (a := pl) (by omega) (by omega) g1
      have hr2 := rc_ok (T := T) (N := tz) (a := pl2) (by omega) (by omega) g5
      rw [← g2, ← g3] at hr1
      rw [← g6, ← g7] at hr2
      obtain ⟨wi9, hwi9⟩ : ∃ z, z = lw + x_66 := ⟨_, rfl⟩
      refine v_iload_n C dX3_readChange_92 rfl ?_
      refine v_lload C dX3_readChange_93 rfl ?_
      refine v_l2i C dX3_readChange_95 ?_
      refine v_iadd C dX3_readChange_96 ?_
      rw [← hwi9]
      refine v_istore C dX3_readChange_97 bsl_16_10 (by decide) rfl ?_
      refine v_lload C dX3_readChange_99 rfl ?_
      refine v_iconst C dX3_readChange_101 ?_
      refine v_lshr C ((lshr_4 ⟨by omega, by omega⟩ : lI x_78 >>> ((iI 4).toInt64 &&& 63) = lI (x_78 / 16))) dX3_readChange_102 ?_
      refine v_lstore C dX3_readChange_103 bsj_16_11 (by decide) (Nat.le_of_ble_eq_true rfl) rfl ?_
      refine v_lload C dX3_readChange_105 rfl ?_
      refine v_ldc2 C (v := 15) (List.mem_of_getElem? (i := 5) rfl) (by decide +kernel) dX3_readChange_107 ?_
      refine v_land C ((land_15 ⟨by omega, by omega⟩ : lI x_78 &&& lI 15 = lI (x_78 % 16))) dX3_readChange_110 ?_
      refine v_l2i C dX3_readChange_111 ?_
      refine v_istore C dX3_readChange_112 bsl_16_13 (by decide) rfl ?_
      have J135 : ∀ (q3 : Int), (BP q3 (0 < x_66 ∨ le < x_78 / 16)) → V G p l e { frames := 8, cells := 2, slots := (L.length + L.length / 2 + 14), locals := 320 } s m args below meth c (MQW G below args s (2) ((L.length + L.length / 2 + 14)) (pV PO)) w (0) (0) 135 [some (.ref r), some (.ref lr), none, none, some (.int (iI le)), some (.long (lI x_66)), none, some (.int (iI pl2)), none, none, some (.int (iI wi9)), some (.long (lI (x_78 / 16))), none, some (.int (iI (x_78 % 16))), none, none] [.int (iI q3)] := by
        intro q3 hq3
        refine v_istore C dX3_readChange_135 bsl_16_14 (by decide) rfl ?_
        refine v_iload C dX3_readChange_137 rfl ?_
        refine v_if_eq C (hq3.r32) (tgt := 165) dX3_readChange_139 (by decide) (fun c_139 => ?_) (fun c_139 => ?_)
        · refine v_aload_n C dX3_readChange_165 rfl ?_
          refine v_iload C dX3_readChange_166 rfl ?_
          refine v_putf C p27 h1 rfl rfl (Nat.le_of_ble_eq_true rfl) dX3_readChange_168 ?_
          refine v_upd h1 (fun w h1 hF9 hE9 => ?_)
          have hB := hB.fr hF9 (fun h9 => by have h8 : 4 = 6 := h9; omega) (fun h9 => by have h8 : 4 + 1 = 6 := h9; omega)
          have hW := hW.fr hF9 (fun h9 => by have h8 : 2 = 6 := h9; omega) (fun h9 => by have h8 : 3 = 6 := h9; omega)
          have hRw := hRw.fr hF9 (fun h9 => by have h8 : TR = 6 := h9; omega) (fun h9 => by have h8 : TR + 1 = 6 := h9; omega) (fun h9 => by have h8 : TR + 2 = 6 := h9; omega) (fun h9 => by have h8 : TR + 3 = 6 := h9; omega) (fun h9 => by have h8 : TR + 4 = 6 := h9; omega) (fun h9 => by have h8 : TR + 5 = 6 := h9; omega)
          have hL := hL.fr hF9 (fun h9 => by have h8 : 101 + 4 * a = 6 := h9; omega) (fun h9 => by have h8 : 101 + 4 * a + 1 = 6 := h9; omega)
          have hC := hC.fr hF9 (fun h9 => by have h8 : 103 + 4 * a = 6 := h9; omega)
          have hF := hF.tr (hF9.mono (fun t h9 => by have h8 : t = 6 := h9; show t = 6 ∨ t = 101 + 4 * a ∨ t = 102 + 4 * a ∨ t = 0; omega))
          exact v_vret C rfl dX3_readChange_171 (by omega) (by omega) (hPO _ ⟨pl3, pl2, h1, hpl3, Or.inl ⟨by omega, fun n9 hn9 => pch_f4 hn9 g1 g2 hq9 g3 g6 (by omega) g5 (by
                rw [show x_66 + lw = wi9 by omega]
                have h3 := hq3.z c_139; omega), ⟨by omega, by omega⟩⟩, hF⟩)
        · have hz := hq3.nz c_139
          have hA9 := hA1 wi9 (by omega) (by omega)
          refine v_lload C dX3_readChange_142 rfl ?_
          refine v_aload_n C dX3_readChange_144 rfl ?_
          refine v_getf C g15 h1 rfl dX3_readChange_145 ?_
          refine v_iload C dX3_readChange_148 rfl ?_
          refine v_callVi C (q := (RX5, TX5, 2)) (As := [_]) (rest := [_]) (c_X5_widthOf hW (i := wi9) ⟨by omega, by omega⟩) (cwV 1 hts gX3_readChange_X5_widthOf rfl rfl rfl (by decide +kernel) ⟨Nat.le_of_ble_eq_true rfl, Nat.le_of_ble_eq_true rfl⟩) (hW.obj.choose_spec) rfl rfl rfl (Nat.le_of_ble_eq_true rfl) dX3_readChange_150 (by dsimp only; omega) (by dsimp only; omega) (fun x_150 w hp => ?_)
          obtain ⟨hw150, rfl⟩ := hp
          rw [if_pos ⟨by omega, by omega⟩] at hw150
          refine v_i2l C (⟨by omega, by omega⟩) dX3_readChange_153 ?_
          refine v_lcmp_ge C (⟨by omega, by omega⟩) (⟨by omega, by omega⟩) (tgt := 165) dX3_readChange_154 dX3_readChange_155 (by decide) (fun c_154 => ?_) (fun c_154 => ?_)
          · refine v_aload_n C dX3_readChange_165 rfl ?_
            refine v_iload C dX3_readChange_166 rfl ?_
            refine v_putf C p27 h1 rfl rfl (Nat.le_of_ble_eq_true rfl) dX3_readChange_168 ?_
            refine v_upd h1 (fun w h1 hF9 hE9 => ?_)
            have hB := hB.fr hF9 (fun h9 => by have h8 : 4 = 6 := h9; omega) (fun h9 => by have h8 : 4 + 1 = 6 := h9; omega)
            have hW := hW.fr hF9 (fun h9 => by have h8 : 2 = 6 := h9; omega) (fun h9 => by have h8 : 3 = 6 := h9; omega)
            have hRw := hRw.fr hF9 (fun h9 => by have h8 : TR = 6 := h9; omega) (fun h9 => by have h8 : TR + 1 = 6 := h9; omega) (fun h9 => by have h8 : TR + 2 = 6 := h9; omega) (fun h9 => by have h8 : TR + 3 = 6 := h9; omega) (fun h9 => by have h8 : TR + 4 = 6 := h9; omega) (fun h9 => by have h8 : TR + 5 = 6 := h9; omega)
            have hL := hL.fr hF9 (fun h9 => by have h8 : 101 + 4 * a = 6 := h9; omega) (fun h9 => by have h8 : 101 + 4 * a + 1 = 6 := h9; omega)
            have hC := hC.fr hF9 (fun h9 => by have h8 : 103 + 4 * a = 6 := h9; omega)
            have hF := hF.tr (hF9.mono (fun t h9 => by have h8 : t = 6 := h9; show t = 6 ∨ t = 101 + 4 * a ∨ t = 102 + 4 * a ∨ t = 0; omega))
            exact v_vret C rfl dX3_readChange_171 (by omega) (by omega) (hPO _ ⟨pl3, pl2, h1, hpl3, Or.inl ⟨by omega, fun n9 hn9 => pch_f4 hn9 g1 g2 hq9 g3 g6 (by omega) g5 (by
                  rw [show x_66 + lw = wi9 by omega]
                  omega), ⟨by omega, by omega⟩⟩, hF⟩)
          · refine v_iload C dX3_readChange_158 rfl ?_
            refine v_bipush C dX3_readChange_160 rfl ?_
            refine v_icmp_le C (⟨by omega, by omega⟩) (⟨by omega, by omega⟩) (tgt := 172) dX3_readChange_162 (by decide) (fun c_162 => ?_) (fun c_162 => ?_)
            · refine v_aload_n C dX3_readChange_172 rfl ?_
              refine v_getf C g19 h1 rfl dX3_readChange_173 ?_
              refine v_iload C dX3_readChange_176 rfl ?_
              refine v_lload C dX3_readChange_178 rfl ?_
              refine v_l2i C dX3_readChange_180 ?_
              refine v_callVi C (q := (RX4, TX4, 3)) (As := [_, _]) (rest := []) (c_X4_valueOf hRw (wi := wi9) (el := x_78 / 16) ⟨by omega, by omega⟩ ⟨by omega, by omega⟩) (cwV 2 hts gX3_readChange_X4_valueOf rfl rfl rfl (by decide +kernel) ⟨Nat.le_of_ble_eq_true rfl, Nat.le_of_ble_eq_true rfl⟩) (hRw.obj.choose_spec) rfl rfl rfl (Nat.le_of_ble_eq_true rfl) dX3_readChange_181 (by dsimp only; omega) (by dsimp only; omega) (fun x_181 w hp => ?_)
              obtain ⟨hv181, rfl⟩ := hp
              have hve : x_181 = ext vf vcap (64 * wi9 + x_78 / 16) := by
                rw [hv181]
                by_cases g : (64 * wi9 + x_78 / 16) < vcap
                · rw [if_pos g, ext_in (by omega) g]
                · rw [if_neg g, ext_out (by omega)]
              have hvr : R32 x_181 := by
                rw [hve]
                by_cases g : (64 * wi9 + x_78 / 16) < vcap
                · rw [ext_in (by omega) g]
                  have := hRw.2.2.2.2.2 (64 * wi9 + x_78 / 16) (by omega) g
                  exact ⟨by omega, by omega⟩
                · rw [ext_out (by omega)]; exact ⟨by omega, by omega⟩
              refine v_istore C dX3_readChange_184 bsl_16_15 (by decide) rfl ?_
              refine v_iload C dX3_readChange_186 rfl ?_
              refine v_iload C dX3_readChange_188 rfl ?_
              refine v_icmp_ne C (⟨by omega, by omega⟩) (hvr) (tgt := 200) dX3_readChange_190 (by decide) (fun c_190 => ?_) (fun c_190 => ?_)
              · refine v_aload_n C dX3_readChange_200 rfl ?_
                refine v_new C (ci := 4) (T := TX1) (N := 4) (Cn := RX1) (fs := [.int (iI 0), .int (iI 0), .int (iI 0), .int (iI 0)]) (103 + 4 * a) tyX1 tyX1_ok rfl (fun _ h => List.mem_cons_of_mem _ (List.mem_append_left _ (List.mem_append_left _ (List.mem_append_left _ (List.mem_append_left _ (List.mem_append_left _ (List.mem_append_right _ (h)))))))) (List.mem_of_getElem? (i := 1) rfl) (List.mem_of_getElem? (i := 8) rfl) (List.mem_of_getElem? (i := 9) rfl) (fun j hj => by rcases (by omega : j = 0 ∨ j = 1 ∨ j = 2 ∨ j = 3) with rfl | rfl | rfl | rfl <;> rfl) (by dsimp only; omega) (by dsimp only; omega) dX3_readChange_201 (fun a201 ha201 => ?_)
                refine v_fresh ha201 (fun w h201 hF201 hE201 => ?_)
                refine v_dup C rfl dX3_readChange_204 ?_
                refine v_iload C dX3_readChange_205 rfl ?_
                refine v_lload C dX3_readChange_207 rfl ?_
                refine v_l2i C dX3_readChange_209 ?_
                refine v_iload C dX3_readChange_210 rfl ?_
                refine v_iload C dX3_readChange_212 rfl ?_
                refine v_callI C (ret2 := none) (b := _) (t := 0) (ci := 0) (fs := []) (q := (RX7, TX7, 33)) (As := [_, _, _, _]) (rest := [_, _]) (c_X1_init h201) (cwI 4 hts gX3_readChange_X1_init rfl rfl rfl (hts _ (List.mem_of_getElem? (i := 9) rfl)) (hts _ (List.mem_of_getElem? (i := 74) rfl)) (hts _ (List.mem_of_getElem? (i := 75) rfl)) rfl (by decide +kernel) ⟨Nat.le_of_ble_eq_true rfl, Nat.le_of_ble_eq_true rfl⟩) rfl rfl (Nat.le_of_ble_eq_true rfl) dX3_readChange_214 (by dsimp only; omega) (by dsimp only; omega) (fun w hp => ?_)
                obtain ⟨h201, hE65⟩ := hp
                have hF9 := fr_new2 ha201 hE201 hE65
                have h1 := hF9 _ _ _ (fun h9 => h9) h1
                have hB := hB.fr hF9 (fun h9 => h9) (fun h9 => h9)
                have hW := hW.fr hF9 (fun h9 => h9) (fun h9 => h9)
                have hRw := hRw.fr hF9 (fun h9 => h9) (fun h9 => h9) (fun h9 => h9) (fun h9 => h9) (fun h9 => h9) (fun h9 => h9)
                have hL := hL.fr hF9 (fun h9 => h9) (fun h9 => h9)
                have hC := hC.fr hF9 (fun h9 => h9)
                have hF := hF.tr (hF9.mono (fun t h9 => h9.elim))
                refine v_callVi C (q := (RJx4a65c, TJx4a65c, 3)) (As := [_]) (rest := []) (c_Jx4a65c_add_9ea2d hL hLn hC.mem (fun t h => by have h7 : t = 103 + 4 * a := h; exact ⟨by omega, by omega, by omega⟩) h201 (q0 := (RX1, TX1, 4)) rfl (by decide) ⟨by omega, by omega, by omega, by omega⟩) (cwV 1 hts gX3_readChange_Jx4a65c_add_9ea2d rfl rfl rfl (by decide +kernel) ⟨Nat.le_of_ble_eq_true rfl, Nat.le_of_ble_eq_true rfl⟩) (hL.obj.choose_spec) rfl rfl rfl (Nat.le_of_ble_eq_true rfl) dX3_readChange_217 (by dsimp only; omega) (by dsimp only; omega) (fun x_217 w hp => ?_)
                obtain ⟨hx217, hL, hF9⟩ := hp
                have h1 := hF9 _ _ _ (fun h9 => by have h8 : 6 = 101 + 4 * a ∨ 6 = 101 + 4 * a + 1 ∨ 6 = 0 := h9; omega) h1
                have hB := hB.fr hF9 (fun h9 => by have h8 : 4 = 101 + 4 * a ∨ 4 = 101 + 4 * a + 1 ∨ 4 = 0 := h9; omega) (fun h9 => by have h8 : 4 + 1 = 101 + 4 * a ∨ 4 + 1 = 101 + 4 * a + 1 ∨ 4 + 1 = 0 := h9; omega)
                have hW := hW.fr hF9 (fun h9 => by have h8 : 2 = 101 + 4 * a ∨ 2 = 101 + 4 * a + 1 ∨ 2 = 0 := h9; omega) (fun h9 => by have h8 : 3 = 101 + 4 * a ∨ 3 = 101 + 4 * a + 1 ∨ 3 = 0 := h9; omega)
                have hRw := hRw.fr hF9 (fun h9 => by have h8 : TR = 101 + 4 * a ∨ TR = 101 + 4 * a + 1 ∨ TR = 0 := h9; omega) (fun h9 => by have h8 : TR + 1 = 101 + 4 * a ∨ TR + 1 = 101 + 4 * a + 1 ∨ TR + 1 = 0 := h9; omega) (fun h9 => by have h8 : TR + 2 = 101 + 4 * a ∨ TR + 2 = 101 + 4 * a + 1 ∨ TR + 2 = 0 := h9; omega) (fun h9 => by have h8 : TR + 3 = 101 + 4 * a ∨ TR + 3 = 101 + 4 * a + 1 ∨ TR + 3 = 0 := h9; omega) (fun h9 => by have h8 : TR + 4 = 101 + 4 * a ∨ TR + 4 = 101 + 4 * a + 1 ∨ TR + 4 = 0 := h9; omega) (fun h9 => by have h8 : TR + 5 = 101 + 4 * a ∨ TR + 5 = 101 + 4 * a + 1 ∨ TR + 5 = 0 := h9; omega)
                have hC := hC.fr hF9 (fun h9 => by have h8 : 103 + 4 * a = 101 + 4 * a ∨ 103 + 4 * a = 101 + 4 * a + 1 ∨ 103 + 4 * a = 0 := h9; omega)
                have h201 := hF9 _ _ _ (fun h9 => by have h8 : 103 + 4 * a = 101 + 4 * a ∨ 103 + 4 * a = 101 + 4 * a + 1 ∨ 103 + 4 * a = 0 := h9; omega) h201
                have hF := hF.tr (hF9.mono (fun t h9 => by have h8 : t = 101 + 4 * a ∨ t = 101 + 4 * a + 1 ∨ t = 0 := h9; show t = 6 ∨ t = 101 + 4 * a ∨ t = 102 + 4 * a ∨ t = 0; omega))
                refine v_pop C rfl dX3_readChange_220 ?_
                exact v_vret C rfl dX3_readChange_221 (by omega) (by omega) (hPO _ ⟨pl3, fa3, h1, hpl3, Or.inr ⟨c_88, (64 * wi9 + x_78 / 16), x_78 % 16, _, fun n9 hn9 => by
                      have h5 := pch_go (T := T) (N := tz) (nw := nw) (n := n9) (a := pl) (p := pz) (A1 := A1) (S := S) hpl.1 hpl.2.1 hn9 g1 g2 hq9 g3 g6 g7 (by omega) g5 (by
                        rw [show x_66 + lw = wi9 by omega]
                        exact ⟨by omega, by omega, by omega, by rw [hSS _ (by omega), ← hve]; omega⟩)
                      rw [show x_66 + lw = wi9 by omega] at h5
                      exact h5, by omega, ⟨by omega, by omega, by omega, by omega, by omega⟩, by rw [List.length_append]; exact hL, hC.snoc (S := ext vf vcap) (by rw [chV_of (by omega) ⟨by omega, by omega⟩, ← hve]; exact h201)⟩, hF⟩)
              · refine v_aload_n C dX3_readChange_193 rfl ?_
                refine v_iload C dX3_readChange_194 rfl ?_
                refine v_putf C p27 h1 rfl rfl (Nat.le_of_ble_eq_true rfl) dX3_readChange_196 ?_
                refine v_upd h1 (fun w h1 hF9 hE9 => ?_)
                have hB := hB.fr hF9 (fun h9 => by have h8 : 4 = 6 := h9; omega) (fun h9 => by have h8 : 4 + 1 = 6 := h9; omega)
                have hW := hW.fr hF9 (fun h9 => by have h8 : 2 = 6 := h9; omega) (fun h9 => by have h8 : 3 = 6 := h9; omega)
                have hRw := hRw.fr hF9 (fun h9 => by have h8 : TR = 6 := h9; omega) (fun h9 => by have h8 : TR + 1 = 6 := h9; omega) (fun h9 => by have h8 : TR + 2 = 6 := h9; omega) (fun h9 => by have h8 : TR + 3 = 6 := h9; omega) (fun h9 => by have h8 : TR + 4 = 6 := h9; omega) (fun h9 => by have h8 : TR + 5 = 6 := h9; omega)
                have hL := hL.fr hF9 (fun h9 => by have h8 : 101 + 4 * a = 6 := h9; omega) (fun h9 => by have h8 : 101 + 4 * a + 1 = 6 := h9; omega)
                have hC := hC.fr hF9 (fun h9 => by have h8 : 103 + 4 * a = 6 := h9; omega)
                have hF := hF.tr (hF9.mono (fun t h9 => by have h8 : t = 6 := h9; show t = 6 ∨ t = 101 + 4 * a ∨ t = 102 + 4 * a ∨ t = 0; omega))
                exact v_vret C rfl dX3_readChange_199 (by omega) (by omega) (hPO _ ⟨pl3, pl2, h1, hpl3, Or.inl ⟨by omega, fun n9 hn9 => pch_f4 hn9 g1 g2 hq9 g3 g6 (by omega) g5 (by
                      rw [show x_66 + lw = wi9 by omega]
                      intro g; have g9 := hSS _ g.2.2.1; have g8 := g.2.2.2; rw [g9, ← hve] at g8; omega), ⟨by omega, by omega⟩⟩, hF⟩)
            · refine v_aload_n C dX3_readChange_165 rfl ?_
              refine v_iload C dX3_readChange_166 rfl ?_
              refine v_putf C p27 h1 rfl rfl (Nat.le_of_ble_eq_true rfl) dX3_readChange_168 ?_
              refine v_upd h1 (fun w h1 hF9 hE9 => ?_)
              have hB := hB.fr hF9 (fun h9 => by have h8 : 4 = 6 := h9; omega) (fun h9 => by have h8 : 4 + 1 = 6 := h9; omega)
              have hW := hW.fr hF9 (fun h9 => by have h8 : 2 = 6 := h9; omega) (fun h9 => by have h8 : 3 = 6 := h9; omega)
              have hRw := hRw.fr hF9 (fun h9 => by have h8 : TR = 6 := h9; omega) (fun h9 => by have h8 : TR + 1 = 6 := h9; omega) (fun h9 => by have h8 : TR + 2 = 6 := h9; omega) (fun h9 => by have h8 : TR + 3 = 6 := h9; omega) (fun h9 => by have h8 : TR + 4 = 6 := h9; omega) (fun h9 => by have h8 : TR + 5 = 6 := h9; omega)
              have hL := hL.fr hF9 (fun h9 => by have h8 : 101 + 4 * a = 6 := h9; omega) (fun h9 => by have h8 : 101 + 4 * a + 1 = 6 := h9; omega)
              have hC := hC.fr hF9 (fun h9 => by have h8 : 103 + 4 * a = 6 := h9; omega)
              have hF := hF.tr (hF9.mono (fun t h9 => by have h8 : t = 6 := h9; show t = 6 ∨ t = 101 + 4 * a ∨ t = 102 + 4 * a ∨ t = 0; omega))
              exact v_vret C rfl dX3_readChange_171 (by omega) (by omega) (hPO _ ⟨pl3, pl2, h1, hpl3, Or.inl ⟨by omega, fun n9 hn9 => pch_f4 hn9 g1 g2 hq9 g3 g6 (by omega) g5 (by
                    rw [show x_66 + lw = wi9 by omega]
                    omega), ⟨by omega, by omega⟩⟩, hF⟩)
      refine v_lload C dX3_readChange_114 rfl ?_
      refine v_lconst C (v := 0) dX3_readChange_116 rfl ?_
      refine v_lcmp_gt C (⟨by omega, by omega⟩) (⟨by omega, by omega⟩) (tgt := 130) dX3_readChange_117 dX3_readChange_118 (by decide) (fun c_117 => ?_) (fun c_117 => ?_)
      · refine v_iconst C dX3_readChange_130 ?_
        refine v_goto C (tgt := 135) dX3_readChange_131 (by decide) ?_
        refine v_kill 3 bsk_16_3 ?_
        refine v_kill 8 bsk_16_8 ?_
        exact J135 1 (Or.inl ⟨rfl, by omega⟩)
      · refine v_lload C dX3_readChange_121 rfl ?_
        refine v_iload C dX3_readChange_123 rfl ?_
        refine v_i2l C (⟨by omega, by omega⟩) dX3_readChange_125 ?_
        refine v_lcmp_le C (⟨by omega, by omega⟩) (⟨by omega, by omega⟩) (tgt := 134) dX3_readChange_126 dX3_readChange_127 (by decide) (fun c_126 => ?_) (fun c_126 => ?_)
        · refine v_iconst C dX3_readChange_134 ?_
          refine v_kill 3 bsk_16_3 ?_
          refine v_kill 8 bsk_16_8 ?_
          exact J135 0 (Or.inr ⟨rfl, by omega⟩)
        · refine v_iconst C dX3_readChange_130 ?_
          refine v_goto C (tgt := 135) dX3_readChange_131 (by decide) ?_
          refine v_kill 3 bsk_16_3 ?_
          refine v_kill 8 bsk_16_8 ?_
          exact J135 1 (Or.inl ⟨rfl, by omega⟩)
    · exact v_vret C rfl dX3_readChange_91 (by omega) (by omega) (hPO _ ⟨pl3, fa3, h1, hpl3, Or.inl ⟨c_88, fun n9 hn9 => by
            rcases hcs with ⟨b1, b2, b3⟩ | ⟨b1, b2, b3, ⟨b4, b5⟩ | ⟨b4, b5⟩⟩
            · have : fa3 = rcF T tz pl := by rcases hcs3 with ⟨a1, a2, a3⟩ | ⟨a1, a2, a3⟩ <;> omega
              rw [this]; exact pch_f1 hn9 b1
            · have : fa3 = pl := by rcases hcs3 with ⟨a1, a2, a3⟩ | ⟨a1, a2, a3⟩ <;> omega
              have h9 := rc_ok (T := T) (N := tz) (a := pl) (by omega) (by omega) b1
              rw [this]; exact pch_f2 hn9 b1 b2 hq9 (by omega)
            · have : fa3 = rcF T tz pl2 := by rcases hcs3 with ⟨a1, a2, a3⟩ | ⟨a1, a2, a3⟩ <;> omega
              rw [this]; exact pch_f3 hn9 b1 b2 hq9 b3 (by omega) (by omega), hfr3⟩, hF⟩)
  refine v_aload_n C dX3_readChange_0 rfl ?_
  refine v_callVi C (q := (RJx4a65c, TJx4a65c, 3)) (As := []) (rest := []) (c_Jx4a65c_isEmpty_aae02 hL) (cwV 0 hts gX3_readChange_Jx4a65c_isEmpty_aae02 rfl rfl rfl (by decide +kernel) ⟨Nat.le_of_ble_eq_true rfl, Nat.le_of_ble_eq_true rfl⟩) (hL.obj.choose_spec) rfl rfl rfl (Nat.le_of_ble_eq_true rfl) dX3_readChange_1 (by dsimp only; omega) (by dsimp only; omega) (fun x_1 w hp => ?_)
  obtain ⟨hx_1, rfl⟩ := hp
  refine v_if_eq C (hx_1.r32) (tgt := 11) dX3_readChange_4 (by decide) (fun c_4 => ?_) (fun c_4 => ?_)
  · have hne : ¬ (L.length : Int) = 0 := hx_1.z c_4
    refine v_aload_n C dX3_readChange_11 rfl ?_
    refine v_aload_n C dX3_readChange_12 rfl ?_
    refine v_callVi C (q := (RJx4a65c, TJx4a65c, 3)) (As := []) (rest := [_]) (c_Jx4a65c_size_8abf5 hL) (cwV 0 hts gX3_readChange_Jx4a65c_size_8abf5 rfl rfl rfl (by decide +kernel) ⟨Nat.le_of_ble_eq_true rfl, Nat.le_of_ble_eq_true rfl⟩) (hL.obj.choose_spec) rfl rfl rfl (Nat.le_of_ble_eq_true rfl) dX3_readChange_13 (by dsimp only; omega) (by dsimp only; omega) (fun x_13 w hp => ?_)
    obtain ⟨hx9b, rfl⟩ := hp
    rw [hx9b]
    refine v_iconst C dX3_readChange_16 ?_
    refine v_isub C dX3_readChange_17 ?_
    refine v_callVr C (q := (RJx4a65c, TJx4a65c, 3)) (As := [_]) (rest := []) (c_Jx4a65c_get_915e3 hL (i := L.length - 1) ⟨by omega, by omega⟩) (cwV 1 hts gX3_readChange_Jx4a65c_get_915e3 rfl rfl rfl (by decide +kernel) ⟨Nat.le_of_ble_eq_true rfl, Nat.le_of_ble_eq_true rfl⟩) (hL.obj.choose_spec) rfl rfl rfl (Nat.le_of_ble_eq_true rfl) dX3_readChange_18 (by dsimp only; omega) (by dsimp only; omega) (fun x_18 w hp => ?_)
    obtain ⟨rfl, rfl⟩ := hp
    refine v_castY C ((hC (L.length - 1) (by omega) (by omega))) rfl (List.mem_of_getElem? (i := 1) rfl) rfl dX3_readChange_21 ?_
    refine v_astore_n C dX3_readChange_24 bsl_16_2 (by decide) rfl ?_
    refine v_aload_n C dX3_readChange_25 rfl ?_
    refine v_ifnonnull C (tgt := 33) dX3_readChange_26 (by decide) ?_
    have hpq := hS.1 (L.length - 1) (by omega) (by omega)
    refine v_aload_n C dX3_readChange_33 rfl ?_
    refine v_getN C g92 (hC (L.length - 1) (by omega) (by omega)) rfl dX3_readChange_34 ?_
    refine v_istore_n C dX3_readChange_37 bsl_16_3 (by decide) rfl ?_
    refine v_aload_n C dX3_readChange_38 rfl ?_
    refine v_ifnonnull C (tgt := 46) dX3_readChange_39 (by decide) ?_
    refine v_aload_n C dX3_readChange_46 rfl ?_
    refine v_getN C g95 (hC (L.length - 1) (by omega) (by omega)) rfl dX3_readChange_47 ?_
    refine v_istore C dX3_readChange_50 bsl_16_4 (by decide) rfl ?_
    refine v_kill 2 bsk_16_2 ?_
    exact J52 _ _ (Or.inr (by have h7 := hpz.2 (by omega); rw [h7]; exact ⟨hpq.1, rfl, rfl⟩))
  · refine v_null C dX3_readChange_7 ?_
    refine v_goto C (tgt := 24) dX3_readChange_8 (by decide) ?_
    refine v_astore_nN C dX3_readChange_24 bsl_16_2 (by decide) rfl ?_
    refine v_aload_nN C dX3_readChange_25 rfl ?_
    refine v_ifnonnullN C dX3_readChange_26 ?_
    refine v_iconst C dX3_readChange_29 ?_
    refine v_goto C (tgt := 37) dX3_readChange_30 (by decide) ?_
    refine v_istore_n C dX3_readChange_37 bsl_16_3 (by decide) rfl ?_
    refine v_aload_nN C dX3_readChange_38 rfl ?_
    refine v_ifnonnullN C dX3_readChange_39 ?_
    refine v_iconst C dX3_readChange_42 ?_
    refine v_goto C (tgt := 50) dX3_readChange_43 (by decide) ?_
    refine v_istore C dX3_readChange_50 bsl_16_4 (by decide) rfl ?_
    refine v_kill 2 bsk_16_2 ?_
    exact J52 0 (-1) (Or.inl ⟨by have h7 := hpz.1 (hx_1.nz c_4); omega, rfl, rfl⟩)
