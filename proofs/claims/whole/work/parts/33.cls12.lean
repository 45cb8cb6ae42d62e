theorem bsj_8_6 {x0 x1 x2 x3 x4 x5 x6 x7 : Option Value} {v : Value} : stJ [x0, x1, x2, x3, x4, x5, x6, x7] 6 v = [x0, x1, x2, x3, x4, x5, some v, none] := rfl
set_option maxRecDepth 100000 in
set_option maxHeartbeats 400000 in
theorem c_readCW_N {G : GG} {l : Launch} {w : Wd} {r : Nat} {tp wr rw : Nat} {tz cap pl fa : Int} {T : Int → Int} {lo hi : Int} (h1 : w r = some (6, .inr (6, [.ref tp, .ref wr, .ref rw, .int (iI pl), .int (iI fa)]))) (hB : BytesAt G w 4 tp tz cap T) (hf : fa ≠ -1) (hfr : R32 fa) (hlo : R64 lo) (hhi : R64 hi) : MG G l yX3_readCountWithin wsX3_readCountWithin 3 120 (0) (0) [.ref r, .long (lI lo), .long (lI hi)] w (pL (fun (x : Int) (w' : Wd) => x = -1 ∧ w' = w)) := by
  refine MG.of (cc := cX3_readCountWithin) (nL := 8) (ret := (some .long)) (ll := [some (.ref r), some (.long (lI lo)), none, some (.long (lI hi)), none, none, none, none]) (by decide) rfl (Nat.le_of_ble_eq_true rfl) rfl ?_
  intro p e s m args below meth c C
  have hts := C.2.2.2.2.1
  have g23 : GetF G s m args 23 6 3 := getF_of C 6 3 (T := TX3) (N := 5) (Cn := RX3) (ref := "TraceBook$Reader") rfl (by decide) (fun _ h => List.mem_cons_of_mem _ (List.mem_append_left _ (List.mem_append_right _ (h)))) (List.mem_of_getElem? (i := 1) rfl) (fun _ h => h)
  have g27 : GetF G s m args 27 6 4 := getF_of C 6 4 (T := TX3) (N := 5) (Cn := RX3) (ref := "TraceBook$Reader") rfl (by decide) (fun _ h => List.mem_cons_of_mem _ (List.mem_append_left _ (List.mem_append_right _ (h)))) (List.mem_of_getElem? (i := 2) rfl) (fun _ h => h)
  refine poI (P := fun PO => V G p l e _ s m args below meth c (MQW G below args s _ _ (pL PO)) w 0 0 0 _ []) (fun PO hPO => ?_)
  refine v_aload_n C dX3_readCountWithin_0 rfl ?_
  refine v_getf C g23 h1 rfl dX3_readCountWithin_1 ?_
  refine v_istore C dX3_readCountWithin_4 bsl_8_5 (by decide) rfl ?_
  refine v_aload_n C dX3_readCountWithin_6 rfl ?_
  refine v_callVl C (q := (RX3, TX3, 5)) (As := []) (rest := []) (c_readCount_N h1 hB hf hfr) (cwV 0 hts gX3_readCountWithin_X3_readCount rfl rfl rfl (by decide +kernel) ⟨Nat.le_of_ble_eq_true rfl, Nat.le_of_ble_eq_true rfl⟩) (h1) rfl rfl rfl (Nat.le_of_ble_eq_true rfl) dX3_readCountWithin_7 (by dsimp only; omega) (by dsimp only; omega) (fun x_7 w hp => ?_)
  obtain ⟨hx_7, rfl⟩ := hp
  refine v_wide (k' := 0) (z' := 0) (Nat.le_refl _) (Nat.le_refl _) ?_
  refine v_lstore C dX3_readCountWithin_10 bsj_8_6 (by decide) (Nat.le_of_ble_eq_true rfl) rfl ?_
  refine v_aload_n C dX3_readCountWithin_12 rfl ?_
  refine v_getf C g27 h1 rfl dX3_readCountWithin_13 ?_
  refine v_iconst C dX3_readCountWithin_16 ?_
  refine v_icmp_ne C (⟨by omega, by omega⟩) (⟨by omega, by omega⟩) (tgt := 40) dX3_readCountWithin_17 (by decide) (fun c_17 => ?_) (fun c_17 => ?_)
  · refine v_lload C dX3_readCountWithin_40 rfl ?_
    exact v_lret C rfl dX3_readCountWithin_42 (by omega) (by omega) (hPO _ _ ⟨hx_7, rfl⟩)
  · exact absurd c_17 (by omega)
set_option maxRecDepth 100000 in
set_option maxHeartbeats 400000 in
theorem c_X3_readCountWithin {G : GG} {l : Launch} {w : Wd} {r : Nat} {tp wr rw : Nat} {tz cap pl fa : Int} {T : Int → Int} {lo hi : Int} (h1 : w r = some (6, .inr (6, [.ref tp, .ref wr, .ref rw, .int (iI pl), .int (iI fa)]))) (hB : BytesAt G w 4 tp tz cap T) (hp : 0 ≤ pl ∧ pl ≤ tz ∧ tz ≤ 60000) (hf : fa = -1) (hlo : R64 lo) (hhi : R64 hi) : MG G l yX3_readCountWithin wsX3_readCountWithin 3 120 (0) (0) [.ref r, .long (lI lo), .long (lI hi)] w (pL (fun (x : Int) (w' : Wd) => ∃ pl2 fa2, w' r = some (6, .inr (6, [.ref tp, .ref wr, .ref rw, .int (iI pl2), .int (iI fa2)])) ∧ (0 ≤ pl2 ∧ pl2 ≤ tz) ∧ ((rcF T tz pl ≠ -1 ∧ fa2 = rcF T tz pl ∧ x = -1) ∨ (rcF T tz pl = -1 ∧ x = rcV T tz pl ∧ pl2 = rcN T tz pl ∧ (((x < lo ∨ hi < x) ∧ fa2 = pl) ∨ (¬ (x < lo ∨ hi < x) ∧ fa2 = -1)))) ∧ Fr (fun t => t = 6) w w')) := by
  refine MG.of (cc := cX3_readCountWithin) (nL := 8) (ret := (some .long)) (ll := [some (.ref r), some (.long (lI lo)), none, some (.long (lI hi)), none, none, none, none]) (by decide) rfl (Nat.le_of_ble_eq_true rfl) rfl ?_
  intro p e s m args below meth c C
  have hts := C.2.2.2.2.1
  have g23 : GetF G s m args 23 6 3 := getF_of C 6 3 (T := TX3) (N := 5) (Cn := RX3) (ref := "TraceBook$Reader") rfl (by decide) (fun _ h => List.mem_cons_of_mem _ (List.mem_append_left _ (List.mem_append_right _ (h)))) (List.mem_of_getElem? (i := 1) rfl) (fun _ h => h)
  have g27 : GetF G s m args 27 6 4 := getF_of C 6 4 (T := TX3) (N := 5) (Cn := RX3) (ref := "TraceBook$Reader") rfl (by decide) (fun _ h => List.mem_cons_of_mem _ (List.mem_append_left _ (List.mem_append_right _ (h)))) (List.mem_of_getElem? (i := 2) rfl) (fun _ h => h)
  have p27 : PutF G s m args 27 6 4 (.int) := putF_of C 6 4 tyX3 tyX3_ok nmX3 (T := TX3) (N := 5) (Cn := RX3) (ref := "TraceBook$Reader") rfl (by decide) (fun _ h => List.mem_cons_of_mem _ (List.mem_append_left _ (List.mem_append_right _ (h)))) (List.mem_of_getElem? (i := 2) rfl) (fun _ h => h) rfl (by decide +kernel)
  refine poI (P := fun PO => V G p l e _ s m args below meth c (MQW G below args s _ _ (pL PO)) w 0 0 0 _ []) (fun PO hPO => ?_)
  obtain ⟨w0, hw0⟩ : ∃ z, z = w := ⟨_, rfl⟩
  rw [← hw0] at hPO
  have hF : Fr (fun t => t = 6) w0 w := by rw [hw0]; exact Fr.rf
  refine v_aload_n C dX3_readCountWithin_0 rfl ?_
  refine v_getf C g23 h1 rfl dX3_readCountWithin_1 ?_
  refine v_istore C dX3_readCountWithin_4 bsl_8_5 (by decide) rfl ?_
  refine v_aload_n C dX3_readCountWithin_6 rfl ?_
  refine v_callVl C (q := (RX3, TX3, 5)) (As := []) (rest := []) (c_X3_readCount h1 hB hp hf) (cwV 0 hts gX3_readCountWithin_X3_readCount rfl rfl rfl (by decide +kernel) ⟨Nat.le_of_ble_eq_true rfl, Nat.le_of_ble_eq_true rfl⟩) (h1) rfl rfl rfl (Nat.le_of_ble_eq_true rfl) dX3_readCountWithin_7 (by dsimp only; omega) (by dsimp only; omega) (fun x_7 w hp => ?_)
  obtain ⟨pl2, h1, hpl2, hok, hno, hF9⟩ := hp
  have hbd := rcF_bd (T := T) (N := tz) (a := pl) (by omega) (by omega)
  have hB := hB.fr hF9 (fun h9 => by have h8 : 4 = 6 := h9; omega) (fun h9 => by have h8 : 4 + 1 = 6 := h9; omega)
  have hF := hF.tr (hF9.mono (fun t h9 => by have h8 : t = 6 := h9; show t = 6; omega))
  refine v_wide (k' := 0) (z' := 0) (Nat.le_refl _) (Nat.le_refl _) ?_
  refine v_lstore C dX3_readCountWithin_10 bsj_8_6 (by decide) (Nat.le_of_ble_eq_true rfl) rfl ?_
  refine v_aload_n C dX3_readCountWithin_12 rfl ?_
  refine v_getf C g27 h1 rfl dX3_readCountWithin_13 ?_
  refine v_iconst C dX3_readCountWithin_16 ?_
  refine v_icmp_ne C (⟨by omega, by omega⟩) (⟨by omega, by omega⟩) (tgt := 40) dX3_readCountWithin_17 (by decide) (fun c_17 => ?_) (fun c_17 => ?_)
  · refine v_lload C dX3_readCountWithin_40 rfl ?_
    exact v_lret C rfl dX3_readCountWithin_42 (by omega) (by omega) (hPO _ _ ⟨pl2, _, h1, hpl2, Or.inl ⟨c_17, rfl, hno c_17⟩, hF⟩)
  · have hvr : 0 ≤ x_7 ∧ x_7 < 4611686018427387904 := by
      have := rc_ok (T := T) (N := tz) (a := pl) (by omega) (by omega) c_17
      rw [(hok c_17).1]
      exact this.2.2
    refine v_lload C dX3_readCountWithin_20 rfl ?_
    refine v_lload_n C dX3_readCountWithin_22 rfl ?_
    refine v_lcmp_lt C (⟨by omega, by omega⟩) (hlo) (tgt := 34) dX3_readCountWithin_23 dX3_readCountWithin_24 (by decide) (fun c_23 => ?_) (fun c_23 => ?_)
    · refine v_aload_n C dX3_readCountWithin_34 rfl ?_
      refine v_iload C dX3_readCountWithin_35 rfl ?_
      refine v_putf C p27 h1 rfl rfl (Nat.le_of_ble_eq_true rfl) dX3_readCountWithin_37 ?_
      refine v_upd h1 (fun w h1 hF9 hE9 => ?_)
      have hB := hB.fr hF9 (fun h9 => by have h8 : 4 = 6 := h9; omega) (fun h9 => by have h8 : 4 + 1 = 6 := h9; omega)
      have hF := hF.tr (hF9.mono (fun t h9 => by have h8 : t = 6 := h9; show t = 6; omega))
      refine v_lload C dX3_readCountWithin_40 rfl ?_
      exact v_lret C rfl dX3_readCountWithin_42 (by omega) (by omega) (hPO _ _ ⟨pl2, pl, h1, hpl2, Or.inr ⟨c_17, (hok c_17).1, (hok c_17).2, Or.inl ⟨by omega, rfl⟩⟩, hF⟩)
    · refine v_lload C dX3_readCountWithin_27 rfl ?_
      refine v_lload_n C dX3_readCountWithin_29 rfl ?_
      refine v_lcmp_le C (⟨by omega, by omega⟩) (hhi) (tgt := 40) dX3_readCountWithin_30 dX3_readCountWithin_31 (by decide) (fun c_30 => ?_) (fun c_30 => ?_)
      · refine v_lload C dX3_readCountWithin_40 rfl ?_
        exact v_lret C rfl dX3_readCountWithin_42 (by omega) (by omega) (hPO _ _ ⟨pl2, _, h1, hpl2, Or.inr ⟨c_17, (hok c_17).1, (hok c_17).2, Or.inr ⟨by omega, c_17⟩⟩, hF⟩)
      · refine v_aload_n C dX3_readCountWithin_34 rfl ?_
        refine v_iload C dX3_readCountWithin_35 rfl ?_
        refine v_putf C p27 h1 rfl rfl (Nat.le_of_ble_eq_true rfl) dX3_readCountWithin_37 ?_
        refine v_upd h1 (fun w h1 hF9 hE9 => ?_)
        have hB := hB.fr hF9 (fun h9 => by have h8 : 4 = 6 := h9; omega) (fun h9 => by have h8 : 4 + 1 = 6 := h9; omega)
        have hF := hF.tr (hF9.mono (fun t h9 => by have h8 : t = 6 := h9; show t = 6; omega))
        refine v_lload C dX3_readCountWithin_40 rfl ?_
        exact v_lret C rfl dX3_readCountWithin_42 (by omega) (by omega) (hPO _ _ ⟨pl2, pl, h1, hpl2, Or.inr ⟨c_17, (hok c_17).1, (hok c_17).2, Or.inl ⟨by omega, rfl⟩⟩, hF⟩)
