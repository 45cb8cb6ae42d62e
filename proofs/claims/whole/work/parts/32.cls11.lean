theorem bsk_7_5 {x0 x1 x2 x3 x4 x5 x6 : Option Value} : stK [x0, x1, x2, x3, x4, x5, x6] 5 = [x0, x1, x2, x3, x4, none, x6] := rfl
theorem bsl_7_1 {x0 x1 x2 x3 x4 x5 x6 : Option Value} {v : Value} : stL [x0, x1, x2, x3, x4, x5, x6] 1 v = [x0, some v, x2, x3, x4, x5, x6] := rfl
theorem valR_snoc (T : Int → Int) : ∀ (n : Nat) (a : Int), valR T (n + 1) a = valR T n a + T (a + n) % 128 * 128 ^ n
  | 0, a => by simp [valR]
  | n + 1, a => by
    rw [valR, valR_snoc T n (a + 1), valR]
    rw [show a + 1 + ((n : Nat) : Int) = a + ((n + 1 : Nat) : Int) by omega, Int.pow_succ]
    rw [Int.mul_add, ← Int.mul_assoc, Int.mul_comm (128 : Int) (T (a + ((n + 1 : Nat) : Int)) % 128), Int.mul_assoc, Int.mul_comm (128 : Int) (128 ^ n)]
    omega
theorem lshl_7 {d k : Int} (hd : 0 ≤ d ∧ d < 128) (hk : 0 ≤ k ∧ k < 9) : lI d <<< ((iI (7 * k)).toInt64 &&& 63) = lI (d * 128 ^ k.toNat) := by
  have key : ∀ k : Fin 9, ∀ d : Fin 128, lI (d.val : Int) <<< ((iI (7 * (k.val : Int))).toInt64 &&& 63) = lI ((d.val : Int) * 128 ^ k.val) := by decide +kernel
  have := key ⟨k.toNat, by omega⟩ ⟨d.toNat, by omega⟩
  simp only [Int.toNat_of_nonneg hd.1, Int.toNat_of_nonneg hk.1] at this
  exact this
theorem lor_7 {c d : Int} {n : Nat} (hc : 0 ≤ c ∧ c < 128 ^ n) (hd : 0 ≤ d ∧ d < 128) (hn : n < 9) : lI c ||| lI (d * 128 ^ n) = lI (c + d * 128 ^ n) := by
  obtain ⟨c, rfl⟩ : ∃ m : Nat, c = (m : Int) := ⟨c.toNat, by omega⟩
  obtain ⟨d, rfl⟩ : ∃ m : Nat, d = (m : Int) := ⟨d.toNat, by omega⟩
  have e128 : (128 : Nat) ^ n = 2 ^ (7 * n) := by rw [Nat.pow_mul]
  have hc2 : c < 2 ^ (7 * n) := by
    rw [← e128]
    have := hc.2
    exact_mod_cast this
  have hp : (2 : Nat) ^ (7 * n) ≤ 2 ^ 56 := Nat.pow_le_pow_right (by omega) (by omega)
  have hd2 : d * 2 ^ (7 * n) ≤ 127 * 2 ^ 56 := Nat.mul_le_mul (by omega) hp
  have e1 : ((d : Int) * 128 ^ n) = ((d * 2 ^ (7 * n) : Nat) : Int) := by
    rw [← e128]; push_cast; rfl
  rw [e1, show ((c : Nat) : Int) + ((d * 2 ^ (7 * n) : Nat) : Int) = ((c + d * 2 ^ (7 * n) : Nat) : Int) by push_cast; rfl]
  apply Int64.toBitVec.inj
  apply BitVec.eq_of_toNat_eq
  simp only [lI, Int64.toBitVec_or, BitVec.toNat_or, Int64.toBitVec_ofInt, BitVec.toNat_ofInt]
  have z : ∀ m : Nat, m < 2 ^ 63 → (((m : Nat) : Int) % ((2 ^ 64 : Nat) : Int)).toNat = m := fun m hm => by omega
  rw [z c (by omega), z (d * 2 ^ (7 * n)) (by omega), z (c + d * 2 ^ (7 * n)) (by omega)]
  rw [Nat.mul_comm d, Nat.or_comm, ← Nat.two_pow_add_eq_or_of_lt hc2 d, Nat.add_comm]
theorem BytesAt.val {G : GG} {w : Wd} {T r : Nat} {len cap : Int} {b : Int → Int} (h : BytesAt G w T r len cap b) : ∀ j, 0 ≤ j → j < len → 0 ≤ b j ∧ b j < 256 := by
  obtain ⟨kq, f, -, -, -, q, -⟩ := h
  exact fun j a c => ⟨(q j a c).1, (q j a c).2.1⟩
set_option maxRecDepth 100000 in
set_option maxHeartbeats 400000 in
theorem c_readCount_N {G : GG} {l : Launch} {w : Wd} {r : Nat} {tp wr rw : Nat} {tz cap pl fa : Int} {T : Int → Int} (h1 : w r = some (6, .inr (6, [.ref tp, .ref wr, .ref rw, .int (iI pl), .int (iI fa)]))) (hB : BytesAt G w 4 tp tz cap T) (hf : fa ≠ -1) (hfr : R32 fa) : MG G l yX3_readCount wsX3_readCount 2 80 (0) (0) [.ref r] w (pL (fun (x : Int) (w' : Wd) => x = -1 ∧ w' = w)) := by
  refine MG.of (cc := cX3_readCount) (nL := 7) (ret := (some .long)) (ll := [some (.ref r), none, none, none, none, none, none]) (by decide) rfl (Nat.le_of_ble_eq_true rfl) rfl ?_
  intro p e s m args below meth c C
  have hts := C.2.2.2.2.1
  have g27 : GetF G s m args 27 6 4 := getF_of C 6 4 (T := TX3) (N := 5) (Cn := RX3) (ref := "TraceBook$Reader") rfl (by decide) (fun _ h => List.mem_cons_of_mem _ (List.mem_append_left _ (List.mem_append_right _ (h)))) (List.mem_of_getElem? (i := 1) rfl) (fun _ h => h)
  refine poI (P := fun PO => V G p l e _ s m args below meth c (MQW G below args s _ _ (pL PO)) w 0 0 0 _ []) (fun PO hPO => ?_)
  refine v_aload_n C dX3_readCount_0 rfl ?_
  refine v_getf C g27 h1 rfl dX3_readCount_1 ?_
  refine v_iconst C dX3_readCount_4 ?_
  refine v_icmp_eq C (⟨by omega, by omega⟩) (⟨by omega, by omega⟩) (tgt := 12) dX3_readCount_5 (by decide) (fun c_5 => ?_) (fun c_5 => ?_)
  · exact absurd c_5 (by omega)
  · refine v_ldc2 C (v := -1) (List.mem_of_getElem? (i := 2) rfl) (by decide +kernel) dX3_readCount_8 ?_
    exact v_lret C rfl dX3_readCount_11 (by omega) (by omega) (hPO _ _ ⟨rfl, rfl⟩)
set_option maxRecDepth 100000 in
set_option maxHeartbeats 400000 in
theorem c_X3_readCount {G : GG} {l : Launch} {w : Wd} {r : Nat} {tp wr rw : Nat} {tz cap pl fa : Int} {T : Int → Int} (h1 : w r = some (6, .inr (6, [.ref tp, .ref wr, .ref rw, .int (iI pl), .int (iI fa)]))) (hB : BytesAt G w 4 tp tz cap T) (hp : 0 ≤ pl ∧ pl ≤ tz ∧ tz ≤ 60000) (hf : fa = -1) : MG G l yX3_readCount wsX3_readCount 2 80 (0) (0) [.ref r] w (pL (fun (x : Int) (w' : Wd) => ∃ pl2, w' r = some (6, .inr (6, [.ref tp, .ref wr, .ref rw, .int (iI pl2), .int (iI (rcF T tz pl))])) ∧ (0 ≤ pl2 ∧ pl2 ≤ tz) ∧ (rcF T tz pl = -1 → x = rcV T tz pl ∧ pl2 = rcN T tz pl) ∧ (rcF T tz pl ≠ -1 → x = -1) ∧ Fr (fun t => t = 6) w w')) := by
  refine MG.of (cc := cX3_readCount) (nL := 7) (ret := (some .long)) (ll := [some (.ref r), none, none, none, none, none, none]) (by decide) rfl (Nat.le_of_ble_eq_true rfl) rfl ?_
  intro p e s m args below meth c C
  have hts := C.2.2.2.2.1
  have g27 : GetF G s m args 27 6 4 := getF_of C 6 4 (T := TX3) (N := 5) (Cn := RX3) (ref := "TraceBook$Reader") rfl (by decide) (fun _ h => List.mem_cons_of_mem _ (List.mem_append_left _ (List.mem_append_right _ (h)))) (List.mem_of_getElem? (i := 1) rfl) (fun _ h => h)
  have g23 : GetF G s m args 23 6 3 := getF_of C 6 3 (T := TX3) (N := 5) (Cn := RX3) (ref := "TraceBook$Reader") rfl (by decide) (fun _ h => List.mem_cons_of_mem _ (List.mem_append_left _ (List.mem_append_right _ (h)))) (List.mem_of_getElem? (i := 3) rfl) (fun _ h => h)
  have g9 : GetF G s m args 9 6 0 := getF_of C 6 0 (T := TX3) (N := 5) (Cn := RX3) (ref := "TraceBook$Reader") rfl (by decide) (fun _ h => List.mem_cons_of_mem _ (List.mem_append_left _ (List.mem_append_right _ (h)))) (List.mem_of_getElem? (i := 4) rfl) (fun _ h => h)
  have g30 : GetN G s m args 30 3 1 := getN_of C 3 1 (T := TX0) (N := 2) (Cn := RX0) (ref := "TraceBook$Bytes") rfl (by decide) (fun _ h => List.mem_cons_of_mem _ (List.mem_append_right _ (h))) (List.mem_of_getElem? (i := 14) rfl) (fun _ h => h)
  have p27 : PutF G s m args 27 6 4 (.int) := putF_of C 6 4 tyX3 tyX3_ok nmX3 (T := TX3) (N := 5) (Cn := RX3) (ref := "TraceBook$Reader") rfl (by decide) (fun _ h => List.mem_cons_of_mem _ (List.mem_append_left _ (List.mem_append_right _ (h)))) (List.mem_of_getElem? (i := 1) rfl) (fun _ h => h) rfl (by decide +kernel)
  have p23 : PutF G s m args 23 6 3 (.int) := putF_of C 6 3 tyX3 tyX3_ok nmX3 (T := TX3) (N := 5) (Cn := RX3) (ref := "TraceBook$Reader") rfl (by decide) (fun _ h => List.mem_cons_of_mem _ (List.mem_append_left _ (List.mem_append_right _ (h)))) (List.mem_of_getElem? (i := 3) rfl) (fun _ h => h) rfl (by decide +kernel)
  refine poI (P := fun PO => V G p l e _ s m args below meth c (MQW G below args s _ _ (pL PO)) w 0 0 0 _ []) (fun PO hPO => ?_)
  obtain ⟨w0, hw0⟩ : ∃ z, z = w := ⟨_, rfl⟩
  rw [← hw0] at hPO
  have hF : Fr (fun t => t = 6) w0 w := by rw [hw0]; exact Fr.rf
  refine v_aload_n C dX3_readCount_0 rfl ?_
  refine v_getf C g27 h1 rfl dX3_readCount_1 ?_
  refine v_iconst C dX3_readCount_4 ?_
  refine v_icmp_eq C (⟨by omega, by omega⟩) (⟨by omega, by omega⟩) (tgt := 12) dX3_readCount_5 (by decide) (fun c_5 => ?_) (fun c_5 => ?_)
  · have hfa : fa = -1 := by omega
    subst hfa
    refine v_aload_n C dX3_readCount_12 rfl ?_
    refine v_getf C g23 h1 rfl dX3_readCount_13 ?_
    refine v_istore_n C dX3_readCount_16 bsl_7_1 (by decide) rfl ?_
    refine v_lconst C (v := 0) dX3_readCount_17 rfl ?_
    refine v_lstore_n C dX3_readCount_18 bsj_7_2 (by decide) (Nat.le_of_ble_eq_true rfl) rfl ?_
    refine v_iconst C dX3_readCount_19 ?_
    refine v_istore C dX3_readCount_20 bsl_7_4 (by decide) rfl ?_
    have L22 : ∀ (N : Nat) (w : Wd) (k9 c9 : Int), (w r = some (6, .inr (6, [.ref tp, .ref wr, .ref rw, .int (iI (pl + k9)), .int (iI (-1))]))) → (BytesAt G w 4 tp tz cap T) → (Fr (fun t => t = 6) w0 w) → (0 ≤ k9 ∧ k9 ≤ 9 ∧ pl + k9 ≤ tz) → (c9 = valR T k9.toNat pl) → (scE T tz (tz - (pl + k9)).toNat (pl + k9) = lastP T tz pl) → (9 - k9).toNat < N → V G p l e { frames := 2, cells := 0, slots := 0, locals := 80 } s m args below meth c (MQW G below args s (0) (0) (pL PO)) w (0) (0) 22 [some (.ref r), some (.int (iI pl)), some (.long (lI c9)), none, some (.int (iI k9)), none, none] [] := by
      intro N
      induction N with
      | zero => intro w k9 c9 h1 hB hF hk hc hs hm; exact absurd hm (Nat.not_lt_zero _)
      | succ N ih =>
        intro w k9 c9 h1 hB hF hk hc hs hm
        refine v_iload C dX3_readCount_22 rfl ?_
        refine v_bipush C dX3_readCount_24 rfl ?_
        refine v_icmp_ge C (⟨by omega, by omega⟩) (⟨by omega, by omega⟩) (tgt := 151) dX3_readCount_26 (by decide) (fun c_26 => ?_) (fun c_26 => ?_)
        · refine v_aload_n C dX3_readCount_151 rfl ?_
          refine v_aload_n C dX3_readCount_152 rfl ?_
          refine v_getf C g23 h1 rfl dX3_readCount_153 ?_
          refine v_aload_n C dX3_readCount_156 rfl ?_
          refine v_getf C g9 h1 rfl dX3_readCount_157 ?_
          refine v_getN C g30 hB.lenF.choose_spec rfl dX3_readCount_160 ?_
          refine v_icmp_ge C (⟨by omega, by omega⟩) (⟨by omega, by omega⟩) (tgt := 170) dX3_readCount_163 (by decide) (fun c_163 => ?_) (fun c_163 => ?_)
          · refine v_aload_n C dX3_readCount_170 rfl ?_
            refine v_getf C g9 h1 rfl dX3_readCount_171 ?_
            refine v_getN C g30 hB.lenF.choose_spec rfl dX3_readCount_174 ?_
            refine v_putf C p27 h1 rfl rfl (Nat.le_of_ble_eq_true rfl) dX3_readCount_177 ?_
            refine v_upd h1 (fun w h1 hF9 hE9 => ?_)
            have hB := hB.fr hF9 (fun h9 => by have h8 : 4 = 6 := h9; omega) (fun h9 => by have h8 : 4 + 1 = 6 := h9; omega)
            have hF := hF.tr (hF9.mono (fun t h9 => by have h8 : t = 6 := h9; show t = 6; omega))
            refine v_ldc2 C (v := -1) (List.mem_of_getElem? (i := 2) rfl) (by decide +kernel) dX3_readCount_180 ?_
            exact v_lret C rfl dX3_readCount_183 (by omega) (by omega) (hPO _ _ ⟨pl + k9, by
                have e0 : lastP T tz pl = tz := by rw [← hs, show tz - (pl + k9) = 0 by omega]; show pl + k9 = tz; omega
                have e : rcF T tz pl = tz := by rw [rcF_eq e0, if_neg (by omega), if_pos rfl]
                rw [e]
                exact ⟨h1, ⟨by omega, by omega⟩, fun q => by omega, fun _ => rfl, hF⟩⟩)
          · refine v_iload_n C dX3_readCount_166 rfl ?_
            refine v_goto C (tgt := 177) dX3_readCount_167 (by decide) ?_
            refine v_putf C p27 h1 rfl rfl (Nat.le_of_ble_eq_true rfl) dX3_readCount_177 ?_
            refine v_upd h1 (fun w h1 hF9 hE9 => ?_)
            have hB := hB.fr hF9 (fun h9 => by have h8 : 4 = 6 := h9; omega) (fun h9 => by have h8 : 4 + 1 = 6 := h9; omega)
            have hF := hF.tr (hF9.mono (fun t h9 => by have h8 : t = 6 := h9; show t = 6; omega))
            refine v_ldc2 C (v := -1) (List.mem_of_getElem? (i := 2) rfl) (by decide +kernel) dX3_readCount_180 ?_
            exact v_lret C rfl dX3_readCount_183 (by omega) (by omega) (hPO _ _ ⟨pl + k9, by
                have hbd := scE_bd T tz (tz - (pl + k9)).toNat (pl + k9) (by omega)
                rw [hs] at hbd
                have e : rcF T tz pl = pl := by rw [rcF_eq rfl, if_pos ⟨by omega, by omega⟩]
                rw [e]
                exact ⟨h1, ⟨by omega, by omega⟩, fun q => by omega, fun _ => rfl, hF⟩⟩)
        · refine v_aload_n C dX3_readCount_29 rfl ?_
          refine v_getf C g23 h1 rfl dX3_readCount_30 ?_
          refine v_aload_n C dX3_readCount_33 rfl ?_
          refine v_getf C g9 h1 rfl dX3_readCount_34 ?_
          refine v_getN C g30 hB.lenF.choose_spec rfl dX3_readCount_37 ?_
          refine v_icmp_ge C (⟨by omega, by omega⟩) (⟨by omega, by omega⟩) (tgt := 151) dX3_readCount_40 (by decide) (fun c_40 => ?_) (fun c_40 => ?_)
          · refine v_aload_n C dX3_readCount_151 rfl ?_
            refine v_aload_n C dX3_readCount_152 rfl ?_
            refine v_getf C g23 h1 rfl dX3_readCount_153 ?_
            refine v_aload_n C dX3_readCount_156 rfl ?_
            refine v_getf C g9 h1 rfl dX3_readCount_157 ?_
            refine v_getN C g30 hB.lenF.choose_spec rfl dX3_readCount_160 ?_
            refine v_icmp_ge C (⟨by omega, by omega⟩) (⟨by omega, by omega⟩) (tgt := 170) dX3_readCount_163 (by decide) (fun c_163 => ?_) (fun c_163 => ?_)
            · refine v_aload_n C dX3_readCount_170 rfl ?_
              refine v_getf C g9 h1 rfl dX3_readCount_171 ?_
              refine v_getN C g30 hB.lenF.choose_spec rfl dX3_readCount_174 ?_
              refine v_putf C p27 h1 rfl rfl (Nat.le_of_ble_eq_true rfl) dX3_readCount_177 ?_
              refine v_upd h1 (fun w h1 hF9 hE9 => ?_)
              have hB := hB.fr hF9 (fun h9 => by have h8 : 4 = 6 := h9; omega) (fun h9 => by have h8 : 4 + 1 = 6 := h9; omega)
              have hF := hF.tr (hF9.mono (fun t h9 => by have h8 : t = 6 := h9; show t = 6; omega))
              refine v_ldc2 C (v := -1) (List.mem_of_getElem? (i := 2) rfl) (by decide +kernel) dX3_readCount_180 ?_
              exact v_lret C rfl dX3_readCount_183 (by omega) (by omega) (hPO _ _ ⟨pl + k9, by
                  have e0 : lastP T tz pl = tz := by rw [← hs, show tz - (pl + k9) = 0 by omega]; show pl + k9 = tz; omega
                  have e : rcF T tz pl = tz := by rw [rcF_eq e0, if_neg (by omega), if_pos rfl]
                  rw [e]
                  exact ⟨h1, ⟨by omega, by omega⟩, fun q => by omega, fun _ => rfl, hF⟩⟩)
            · refine v_iload_n C dX3_readCount_166 rfl ?_
              refine v_goto C (tgt := 177) dX3_readCount_167 (by decide) ?_
              refine v_putf C p27 h1 rfl rfl (Nat.le_of_ble_eq_true rfl) dX3_readCount_177 ?_
              refine v_upd h1 (fun w h1 hF9 hE9 => ?_)
              have hB := hB.fr hF9 (fun h9 => by have h8 : 4 = 6 := h9; omega) (fun h9 => by have h8 : 4 + 1 = 6 := h9; omega)
              have hF := hF.tr (hF9.mono (fun t h9 => by have h8 : t = 6 := h9; show t = 6; omega))
              refine v_ldc2 C (v := -1) (List.mem_of_getElem? (i := 2) rfl) (by decide +kernel) dX3_readCount_180 ?_
              exact v_lret C rfl dX3_readCount_183 (by omega) (by omega) (hPO _ _ ⟨pl + k9, by
                  have hbd := scE_bd T tz (tz - (pl + k9)).toNat (pl + k9) (by omega)
                  rw [hs] at hbd
                  have e : rcF T tz pl = pl := by rw [rcF_eq rfl, if_pos ⟨by omega, by omega⟩]
                  rw [e]
                  exact ⟨h1, ⟨by omega, by omega⟩, fun q => by omega, fun _ => rfl, hF⟩⟩)
          · refine v_aload_n C dX3_readCount_43 rfl ?_
            refine v_getf C g9 h1 rfl dX3_readCount_44 ?_
            refine v_aload_n C dX3_readCount_47 rfl ?_
            refine v_getf C g23 h1 rfl dX3_readCount_48 ?_
            refine v_callVi C (q := (RX0, TX0, 2)) (As := [_]) (rest := []) (c_X0_get hB (i := pl + k9) ⟨by omega, by omega⟩) (cwV 1 hts gX3_readCount_X0_get rfl rfl rfl (by decide +kernel) ⟨Nat.le_of_ble_eq_true rfl, Nat.le_of_ble_eq_true rfl⟩) (hB.obj.choose_spec) rfl rfl rfl (Nat.le_of_ble_eq_true rfl) dX3_readCount_51 (by dsimp only; omega) (by dsimp only; omega) (fun x_51 w hp => ?_)
            obtain ⟨hx9, rfl⟩ := hp
            rw [if_pos ⟨by omega, by omega⟩] at hx9
            have hxr := hB.val (pl + k9) (by omega) (by omega)
            rw [← hx9] at hxr
            have hcb := valR_bd T k9.toNat pl
            rw [← hc] at hcb
            have hd9 : 0 ≤ x_51 % 128 ∧ x_51 % 128 < 128 := ⟨by omega, by omega⟩
            have hc2 : c9 + x_51 % 128 * 128 ^ k9.toNat = valR T (k9 + 1).toNat pl := by rw [show (k9 + 1).toNat = k9.toNat + 1 by omega, valR_snoc, ← hc, show pl + ((k9.toNat : Nat) : Int) = pl + k9 by omega, ← hx9]
            have hv9 := valR_9 (T := T) (n := (k9 + 1).toNat) (a := pl) (by omega)
            rw [← hc2] at hv9
            refine v_wide (k' := 0) (z' := 0) (Nat.le_refl _) (Nat.le_refl _) ?_
            refine v_istore C dX3_readCount_54 bsl_7_5 (by decide) rfl ?_
            refine v_aload_n C dX3_readCount_56 rfl ?_
            refine v_dup C rfl dX3_readCount_57 ?_
            refine v_getf C g23 h1 rfl dX3_readCount_58 ?_
            refine v_iconst C dX3_readCount_61 ?_
            refine v_iadd C dX3_readCount_62 ?_
            refine v_putf C p23 h1 rfl rfl (Nat.le_of_ble_eq_true rfl) dX3_readCount_63 ?_
            refine v_upd h1 (fun w h1 hF9 hE9 => ?_)
            have hB := hB.fr hF9 (fun h9 => by have h8 : 4 = 6 := h9; omega) (fun h9 => by have h8 : 4 + 1 = 6 := h9; omega)
            have hF := hF.tr (hF9.mono (fun t h9 => by have h8 : t = 6 := h9; show t = 6; omega))
            refine v_lload_n C dX3_readCount_66 rfl ?_
            refine v_iload C dX3_readCount_67 rfl ?_
            refine v_i2l C (⟨by omega, by omega⟩) dX3_readCount_69 ?_
            refine v_ldc2 C (v := 127) (List.mem_of_getElem? (i := 5) rfl) (by decide +kernel) dX3_readCount_70 ?_
            refine v_land C ((land_127 ⟨by omega, by omega⟩ : lI x_51 &&& lI 127 = lI (x_51 % 128))) dX3_readCount_73 ?_
            refine v_bipush C dX3_readCount_74 rfl ?_
            refine v_iload C dX3_readCount_76 rfl ?_
            refine v_imul C dX3_readCount_78 ?_
            refine v_lshl C ((lshl_7 hd9 ⟨by omega, by omega⟩ : lI (x_51 % 128) <<< ((iI (7 * k9)).toInt64 &&& 63) = lI (x_51 % 128 * 128 ^ k9.toNat))) dX3_readCount_79 ?_
            refine v_lor C ((lor_7 hcb hd9 (by omega) : lI c9 ||| lI (x_51 % 128 * 128 ^ k9.toNat) = lI (c9 + x_51 % 128 * 128 ^ k9.toNat))) dX3_readCount_80 ?_
            refine v_lstore_n C dX3_readCount_81 bsj_7_2 (by decide) (Nat.le_of_ble_eq_true rfl) rfl ?_
            refine v_iload C dX3_readCount_82 rfl ?_
            refine v_sipush C dX3_readCount_84 rfl ?_
            refine v_icmp_ge C (⟨by omega, by omega⟩) (⟨by omega, by omega⟩) (tgt := 145) dX3_readCount_87 (by decide) (fun c_87 => ?_) (fun c_87 => ?_)
            · refine v_iinc C dX3_readCount_145 rfl bsl_7_4 (by decide) rfl ?_
              refine v_goto C (tgt := 22) dX3_readCount_148 (by decide) ?_
              refine v_kill 5 bsk_7_5 ?_
              exact ih w (k9 + 1) _ (by rw [← Int.add_assoc]; exact h1) hB hF ⟨by omega, by omega, by omega⟩ hc2 (by rw [← hs, show pl + (k9 + 1) = pl + k9 + 1 by omega]; exact (scE_go (by omega) (by omega)).symm) (by omega)
            · have he : lastP T tz pl = pl + k9 := by rw [← hs]; exact scE_stop (fun h9 => by omega)
              obtain ⟨e9, he9⟩ : ∃ z, z = c9 + x_51 % 128 * 128 ^ k9.toNat := ⟨_, rfl⟩
              rw [← he9] at hc2 hv9 ⊢
              refine v_iload C dX3_readCount_90 rfl ?_
              refine v_if_ne C (⟨by omega, by omega⟩) (tgt := 104) dX3_readCount_92 (by decide) (fun c_92 => ?_) (fun c_92 => ?_)
              · refine v_iconst C dX3_readCount_104 ?_
                refine v_istore C dX3_readCount_105 bsl_7_6 (by decide) rfl ?_
                refine v_aload_n C dX3_readCount_107 rfl ?_
                refine v_iload C dX3_readCount_108 rfl ?_
                refine v_if_ne C (⟨by omega, by omega⟩) (tgt := 121) dX3_readCount_110 (by decide) (fun c_110 => ?_) (fun c_110 => ?_)
                · refine v_iload_n C dX3_readCount_121 rfl ?_
                  refine v_goto C (tgt := 126) dX3_readCount_122 (by decide) ?_
                  refine v_putf C p27 h1 rfl rfl (Nat.le_of_ble_eq_true rfl) dX3_readCount_126 ?_
                  refine v_upd h1 (fun w h1 hF9 hE9 => ?_)
                  have hB := hB.fr hF9 (fun h9 => by have h8 : 4 = 6 := h9; omega) (fun h9 => by have h8 : 4 + 1 = 6 := h9; omega)
                  have hF := hF.tr (hF9.mono (fun t h9 => by have h8 : t = 6 := h9; show t = 6; omega))
                  refine v_aload_n C dX3_readCount_129 rfl ?_
                  refine v_getf C g27 h1 rfl dX3_readCount_130 ?_
                  refine v_iconst C dX3_readCount_133 ?_
                  refine v_icmp_ne C (⟨by omega, by omega⟩) (⟨by omega, by omega⟩) (tgt := 141) dX3_readCount_134 (by decide) (fun c_134 => ?_) (fun c_134 => ?_)
                  · refine v_ldc2 C (v := -1) (List.mem_of_getElem? (i := 2) rfl) (by decide +kernel) dX3_readCount_141 ?_
                    exact v_lret C rfl dX3_readCount_144 (by omega) (by omega) (hPO _ _ ⟨pl + k9 + 1, by
                        have e : rcF T tz pl = pl := by
                          rw [rcF_eq he, if_neg (by omega), if_neg (by omega), if_pos ?_]
                          rw [show pl + k9 - pl + 1 = k9 + 1 by omega, ← hc2]
                          omega
                        rw [e]
                        exact ⟨h1, ⟨by omega, by omega⟩, fun q => by omega, fun _ => rfl, hF⟩⟩)
                  · exact absurd c_134 (by omega)
                · refine v_lload_n C dX3_readCount_113 rfl ?_
                  refine v_ldc2 C (v := 4611686018427387903) (List.mem_of_getElem? (i := 6) rfl) (by decide +kernel) dX3_readCount_114 ?_
                  refine v_lcmp_le C (⟨by omega, by omega⟩) (⟨by omega, by omega⟩) (tgt := 125) dX3_readCount_117 dX3_readCount_118 (by decide) (fun c_117 => ?_) (fun c_117 => ?_)
                  · refine v_iconst C dX3_readCount_125 ?_
                    refine v_putf C p27 h1 rfl rfl (Nat.le_of_ble_eq_true rfl) dX3_readCount_126 ?_
                    refine v_upd h1 (fun w h1 hF9 hE9 => ?_)
                    have hB := hB.fr hF9 (fun h9 => by have h8 : 4 = 6 := h9; omega) (fun h9 => by have h8 : 4 + 1 = 6 := h9; omega)
                    have hF := hF.tr (hF9.mono (fun t h9 => by have h8 : t = 6 := h9; show t = 6; omega))
                    refine v_aload_n C dX3_readCount_129 rfl ?_
                    refine v_getf C g27 h1 rfl dX3_readCount_130 ?_
                    refine v_iconst C dX3_readCount_133 ?_
                    refine v_icmp_ne C (⟨by omega, by omega⟩) (⟨by omega, by omega⟩) (tgt := 141) dX3_readCount_134 (by decide) (fun c_134 => ?_) (fun c_134 => ?_)
                    · exact absurd c_134 (by omega)
                    · refine v_lload_n C dX3_readCount_137 rfl ?_
                      refine v_goto C (tgt := 144) dX3_readCount_138 (by decide) ?_
                      exact v_lret C rfl dX3_readCount_144 (by omega) (by omega) (hPO _ _ ⟨pl + k9 + 1, by
                          have e : rcF T tz pl = -1 := by
                            rw [rcF_eq he, if_neg (by omega), if_neg (by omega), if_neg ?_]
                            rw [show pl + k9 - pl + 1 = k9 + 1 by omega, ← hc2]
                            omega
                          rw [e]
                          exact ⟨h1, ⟨by omega, by omega⟩, fun q => ⟨by unfold rcV; rw [he]; rw [show pl + k9 - pl + 1 = k9 + 1 by omega, ← hc2], by unfold rcN; rw [he]⟩, fun q => absurd rfl q, hF⟩⟩)
                  · refine v_iload_n C dX3_readCount_121 rfl ?_
                    refine v_goto C (tgt := 126) dX3_readCount_122 (by decide) ?_
                    refine v_putf C p27 h1 rfl rfl (Nat.le_of_ble_eq_true rfl) dX3_readCount_126 ?_
                    refine v_upd h1 (fun w h1 hF9 hE9 => ?_)
                    have hB := hB.fr hF9 (fun h9 => by have h8 : 4 = 6 := h9; omega) (fun h9 => by have h8 : 4 + 1 = 6 := h9; omega)
                    have hF := hF.tr (hF9.mono (fun t h9 => by have h8 : t = 6 := h9; show t = 6; omega))
                    refine v_aload_n C dX3_readCount_129 rfl ?_
                    refine v_getf C g27 h1 rfl dX3_readCount_130 ?_
                    refine v_iconst C dX3_readCount_133 ?_
                    refine v_icmp_ne C (⟨by omega, by omega⟩) (⟨by omega, by omega⟩) (tgt := 141) dX3_readCount_134 (by decide) (fun c_134 => ?_) (fun c_134 => ?_)
                    · refine v_ldc2 C (v := -1) (List.mem_of_getElem? (i := 2) rfl) (by decide +kernel) dX3_readCount_141 ?_
                      exact v_lret C rfl dX3_readCount_144 (by omega) (by omega) (hPO _ _ ⟨pl + k9 + 1, by
                          have e : rcF T tz pl = pl := by
                            rw [rcF_eq he, if_neg (by omega), if_neg (by omega), if_pos ?_]
                            rw [show pl + k9 - pl + 1 = k9 + 1 by omega, ← hc2]
                            omega
                          rw [e]
                          exact ⟨h1, ⟨by omega, by omega⟩, fun q => by omega, fun _ => rfl, hF⟩⟩)
                    · exact absurd c_134 (by omega)
              · refine v_iload C dX3_readCount_95 rfl ?_
                refine v_if_le C (⟨by omega, by omega⟩) (tgt := 104) dX3_readCount_97 (by decide) (fun c_97 => ?_) (fun c_97 => ?_)
                · refine v_iconst C dX3_readCount_104 ?_
                  refine v_istore C dX3_readCount_105 bsl_7_6 (by decide) rfl ?_
                  refine v_aload_n C dX3_readCount_107 rfl ?_
                  refine v_iload C dX3_readCount_108 rfl ?_
                  refine v_if_ne C (⟨by omega, by omega⟩) (tgt := 121) dX3_readCount_110 (by decide) (fun c_110 => ?_) (fun c_110 => ?_)
                  · refine v_iload_n C dX3_readCount_121 rfl ?_
                    refine v_goto C (tgt := 126) dX3_readCount_122 (by decide) ?_
                    refine v_putf C p27 h1 rfl rfl (Nat.le_of_ble_eq_true rfl) dX3_readCount_126 ?_
                    refine v_upd h1 (fun w h1 hF9 hE9 => ?_)
                    have hB := hB.fr hF9 (fun h9 => by have h8 : 4 = 6 := h9; omega) (fun h9 => by have h8 : 4 + 1 = 6 := h9; omega)
                    have hF := hF.tr (hF9.mono (fun t h9 => by have h8 : t = 6 := h9; show t = 6; omega))
                    refine v_aload_n C dX3_readCount_129 rfl ?_
                    refine v_getf C g27 h1 rfl dX3_readCount_130 ?_
                    refine v_iconst C dX3_readCount_133 ?_
                    refine v_icmp_ne C (⟨by omega, by omega⟩) (⟨by omega, by omega⟩) (tgt := 141) dX3_readCount_134 (by decide) (fun c_134 => ?_) (fun c_134 => ?_)
                    · refine v_ldc2 C (v := -1) (List.mem_of_getElem? (i := 2) rfl) (by decide +kernel) dX3_readCount_141 ?_
                      exact v_lret C rfl dX3_readCount_144 (by omega) (by omega) (hPO _ _ ⟨pl + k9 + 1, by
                          have e : rcF T tz pl = pl := by
                            rw [rcF_eq he, if_neg (by omega), if_neg (by omega), if_pos ?_]
                            rw [show pl + k9 - pl + 1 = k9 + 1 by omega, ← hc2]
                            omega
                          rw [e]
                          exact ⟨h1, ⟨by omega, by omega⟩, fun q => by omega, fun _ => rfl, hF⟩⟩)
                    · exact absurd c_134 (by omega)
                  · refine v_lload_n C dX3_readCount_113 rfl ?_
                    refine v_ldc2 C (v := 4611686018427387903) (List.mem_of_getElem? (i := 6) rfl) (by decide +kernel) dX3_readCount_114 ?_
                    refine v_lcmp_le C (⟨by omega, by omega⟩) (⟨by omega, by omega⟩) (tgt := 125) dX3_readCount_117 dX3_readCount_118 (by decide) (fun c_117 => ?_) (fun c_117 => ?_)
                    · refine v_iconst C dX3_readCount_125 ?_
                      refine v_putf C p27 h1 rfl rfl (Nat.le_of_ble_eq_true rfl) dX3_readCount_126 ?_
                      refine v_upd h1 (fun w h1 hF9 hE9 => ?_)
                      have hB := hB.fr hF9 (fun h9 => by have h8 : 4 = 6 := h9; omega) (fun h9 => by have h8 : 4 + 1 = 6 := h9; omega)
                      have hF := hF.tr (hF9.mono (fun t h9 => by have h8 : t = 6 := h9; show t = 6; omega))
                      refine v_aload_n C dX3_readCount_129 rfl ?_
                      refine v_getf C g27 h1 rfl dX3_readCount_130 ?_
                      refine v_iconst C dX3_readCount_133 ?_
                      refine v_icmp_ne C (⟨by omega, by omega⟩) (⟨by omega, by omega⟩) (tgt := 141) dX3_readCount_134 (by decide) (fun c_134 => ?_) (fun c_134 => ?_)
                      · exact absurd c_134 (by omega)
                      · refine v_lload_n C dX3_readCount_137 rfl ?_
                        refine v_goto C (tgt := 144) dX3_readCount_138 (by decide) ?_
                        exact v_lret C rfl dX3_readCount_144 (by omega) (by omega) (hPO _ _ ⟨pl + k9 + 1, by
                            have e : rcF T tz pl = -1 := by
                              rw [rcF_eq he, if_neg (by omega), if_neg (by omega), if_neg ?_]
                              rw [show pl + k9 - pl + 1 = k9 + 1 by omega, ← hc2]
                              omega
                            rw [e]
                            exact ⟨h1, ⟨by omega, by omega⟩, fun q => ⟨by unfold rcV; rw [he]; rw [show pl + k9 - pl + 1 = k9 + 1 by omega, ← hc2], by unfold rcN; rw [he]⟩, fun q => absurd rfl q, hF⟩⟩)
                    · refine v_iload_n C dX3_readCount_121 rfl ?_
                      refine v_goto C (tgt := 126) dX3_readCount_122 (by decide) ?_
                      refine v_putf C p27 h1 rfl rfl (Nat.le_of_ble_eq_true rfl) dX3_readCount_126 ?_
                      refine v_upd h1 (fun w h1 hF9 hE9 => ?_)
                      have hB := hB.fr hF9 (fun h9 => by have h8 : 4 = 6 := h9; omega) (fun h9 => by have h8 : 4 + 1 = 6 := h9; omega)
                      have hF := hF.tr (hF9.mono (fun t h9 => by have h8 : t = 6 := h9; show t = 6; omega))
                      refine v_aload_n C dX3_readCount_129 rfl ?_
                      refine v_getf C g27 h1 rfl dX3_readCount_130 ?_
                      refine v_iconst C dX3_readCount_133 ?_
                      refine v_icmp_ne C (⟨by omega, by omega⟩) (⟨by omega, by omega⟩) (tgt := 141) dX3_readCount_134 (by decide) (fun c_134 => ?_) (fun c_134 => ?_)
                      · refine v_ldc2 C (v := -1) (List.mem_of_getElem? (i := 2) rfl) (by decide +kernel) dX3_readCount_141 ?_
                        exact v_lret C rfl dX3_readCount_144 (by omega) (by omega) (hPO _ _ ⟨pl + k9 + 1, by
                            have e : rcF T tz pl = pl := by
                              rw [rcF_eq he, if_neg (by omega), if_neg (by omega), if_pos ?_]
                              rw [show pl + k9 - pl + 1 = k9 + 1 by omega, ← hc2]
                              omega
                            rw [e]
                            exact ⟨h1, ⟨by omega, by omega⟩, fun q => by omega, fun _ => rfl, hF⟩⟩)
                      · exact absurd c_134 (by omega)
                · refine v_iconst C dX3_readCount_100 ?_
                  refine v_goto C (tgt := 105) dX3_readCount_101 (by decide) ?_
                  refine v_istore C dX3_readCount_105 bsl_7_6 (by decide) rfl ?_
                  refine v_aload_n C dX3_readCount_107 rfl ?_
                  refine v_iload C dX3_readCount_108 rfl ?_
                  refine v_if_ne C (⟨by omega, by omega⟩) (tgt := 121) dX3_readCount_110 (by decide) (fun c_110 => ?_) (fun c_110 => ?_)
                  · refine v_iload_n C dX3_readCount_121 rfl ?_
                    refine v_goto C (tgt := 126) dX3_readCount_122 (by decide) ?_
                    refine v_putf C p27 h1 rfl rfl (Nat.le_of_ble_eq_true rfl) dX3_readCount_126 ?_
                    refine v_upd h1 (fun w h1 hF9 hE9 => ?_)
                    have hB := hB.fr hF9 (fun h9 => by have h8 : 4 = 6 := h9; omega) (fun h9 => by have h8 : 4 + 1 = 6 := h9; omega)
                    have hF := hF.tr (hF9.mono (fun t h9 => by have h8 : t = 6 := h9; show t = 6; omega))
                    refine v_aload_n C dX3_readCount_129 rfl ?_
                    refine v_getf C g27 h1 rfl dX3_readCount_130 ?_
                    refine v_iconst C dX3_readCount_133 ?_
                    refine v_icmp_ne C (⟨by omega, by omega⟩) (⟨by omega, by omega⟩) (tgt := 141) dX3_readCount_134 (by decide) (fun c_134 => ?_) (fun c_134 => ?_)
                    · refine v_ldc2 C (v := -1) (List.mem_of_getElem? (i := 2) rfl) (by decide +kernel) dX3_readCount_141 ?_
                      exact v_lret C rfl dX3_readCount_144 (by omega) (by omega) (hPO _ _ ⟨pl + k9 + 1, by
                          have e : rcF T tz pl = pl := by
                            rw [rcF_eq he, if_neg (by omega), if_neg (by omega), if_pos ?_]
                            rw [show pl + k9 - pl + 1 = k9 + 1 by omega, ← hc2]
                            omega
                          rw [e]
                          exact ⟨h1, ⟨by omega, by omega⟩, fun q => by omega, fun _ => rfl, hF⟩⟩)
                    · exact absurd c_134 (by omega)
                  · refine v_lload_n C dX3_readCount_113 rfl ?_
                    refine v_ldc2 C (v := 4611686018427387903) (List.mem_of_getElem? (i := 6) rfl) (by decide +kernel) dX3_readCount_114 ?_
                    refine v_lcmp_le C (⟨by omega, by omega⟩) (⟨by omega, by omega⟩) (tgt := 125) dX3_readCount_117 dX3_readCount_118 (by decide) (fun c_117 => ?_) (fun c_117 => ?_)
                    · refine v_iconst C dX3_readCount_125 ?_
                      refine v_putf C p27 h1 rfl rfl (Nat.le_of_ble_eq_true rfl) dX3_readCount_126 ?_
                      refine v_upd h1 (fun w h1 hF9 hE9 => ?_)
                      have hB := hB.fr hF9 (fun h9 => by have h8 : 4 = 6 := h9; omega) (fun h9 => by have h8 : 4 + 1 = 6 := h9; omega)
                      have hF := hF.tr (hF9.mono (fun t h9 => by have h8 : t = 6 := h9; show t = 6; omega))
                      refine v_aload_n C dX3_readCount_129 rfl ?_
                      refine v_getf C g27 h1 rfl dX3_readCount_130 ?_
                      refine v_iconst C dX3_readCount_133 ?_
                      refine v_icmp_ne C (⟨by omega, by omega⟩) (⟨by omega, by omega⟩) (tgt := 141) dX3_readCount_134 (by decide) (fun c_134 => ?_) (fun c_134 => ?_)
                      · exact absurd c_134 (by omega)
                      · refine v_lload_n C dX3_readCount_137 rfl ?_
                        refine v_goto C (tgt := 144) dX3_readCount_138 (by decide) ?_
                        exact v_lret C rfl dX3_readCount_144 (by omega) (by omega) (hPO _ _ ⟨pl + k9 + 1, by
                            have e : rcF T tz pl = -1 := by
                              rw [rcF_eq he, if_neg (by omega), if_neg (by omega), if_neg ?_]
                              rw [show pl + k9 - pl + 1 = k9 + 1 by omega, ← hc2]
                              omega
                            rw [e]
                            exact ⟨h1, ⟨by omega, by omega⟩, fun q => ⟨by unfold rcV; rw [he]; rw [show pl + k9 - pl + 1 = k9 + 1 by omega, ← hc2], by unfold rcN; rw [he]⟩, fun q => absurd rfl q, hF⟩⟩)
                    · refine v_iload_n C dX3_readCount_121 rfl ?_
                      refine v_goto C (tgt := 126) dX3_readCount_122 (by decide) ?_
                      refine v_putf C p27 h1 rfl rfl (Nat.le_of_ble_eq_true rfl) dX3_readCount_126 ?_
                      refine v_upd h1 (fun w h1 hF9 hE9 => ?_)
                      have hB := hB.fr hF9 (fun h9 => by have h8 : 4 = 6 := h9; omega) (fun h9 => by have h8 : 4 + 1 = 6 := h9; omega)
                      have hF := hF.tr (hF9.mono (fun t h9 => by have h8 : t = 6 := h9; show t = 6; omega))
                      refine v_aload_n C dX3_readCount_129 rfl ?_
                      refine v_getf C g27 h1 rfl dX3_readCount_130 ?_
                      refine v_iconst C dX3_readCount_133 ?_
                      refine v_icmp_ne C (⟨by omega, by omega⟩) (⟨by omega, by omega⟩) (tgt := 141) dX3_readCount_134 (by decide) (fun c_134 => ?_) (fun c_134 => ?_)
                      · refine v_ldc2 C (v := -1) (List.mem_of_getElem? (i := 2) rfl) (by decide +kernel) dX3_readCount_141 ?_
                        exact v_lret C rfl dX3_readCount_144 (by omega) (by omega) (hPO _ _ ⟨pl + k9 + 1, by
                            have e : rcF T tz pl = pl := by
                              rw [rcF_eq he, if_neg (by omega), if_neg (by omega), if_pos ?_]
                              rw [show pl + k9 - pl + 1 = k9 + 1 by omega, ← hc2]
                              omega
                            rw [e]
                            exact ⟨h1, ⟨by omega, by omega⟩, fun q => by omega, fun _ => rfl, hF⟩⟩)
                      · exact absurd c_134 (by omega)
    exact L22 _ w 0 0 (by rw [Int.add_zero]; exact h1) hB hF ⟨by omega, by omega, by omega⟩ rfl (by rw [Int.add_zero]; rfl) (Nat.lt_succ_self _)
  · exact absurd c_5 (by omega)
