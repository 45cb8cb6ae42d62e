theorem bsj_6_3 {x0 x1 x2 x3 x4 x5 : Option Value} {v : Value} : stJ [x0, x1, x2, x3, x4, x5] 3 v = [x0, x1, x2, some v, none, x5] := rfl
theorem bsk_6_1 {x0 x1 x2 x3 x4 x5 : Option Value} : stK [x0, x1, x2, x3, x4, x5] 1 = [x0, none, x2, x3, x4, x5] := rfl
theorem bsl_3_2 {x0 x1 x2 : Option Value} {v : Value} : stL [x0, x1, x2] 2 v = [x0, x1, some v] := rfl
theorem bsl_6_5 {x0 x1 x2 x3 x4 x5 : Option Value} {v : Value} : stL [x0, x1, x2, x3, x4, x5] 5 v = [x0, x1, x2, x3, x4, some v] := rfl
theorem sg_idem {y : Int} (h : 0 ≤ y ∧ y < 256) : (iI (sg y)).toInt8.toInt32 = iI (sg y) := by
  have h1 := sg_r h
  rw [sg_i8 ⟨by omega, by omega⟩]
  congr 1
  unfold sg
  by_cases q : y < 128
  · rw [if_pos q, if_pos (by omega)]; omega
  · rw [if_neg q, if_neg (by omega)]; omega
theorem bytes_up {len y : Int} {b f : Int → Int} (hv : ∀ j, 0 ≤ j → j < len → 0 ≤ b j ∧ b j < 256 ∧ f j = sg (b j)) (hy : 0 ≤ y ∧ y < 256) : ∀ j, 0 ≤ j → j < len + 1 → 0 ≤ upI b len y j ∧ upI b len y j < 256 ∧ upI f len (sg y) j = sg (upI b len y j) := by
  intro j h0 h1
  by_cases q : j = len
  · subst q
    rw [upI_eq, upI_eq]
    exact ⟨hy.1, hy.2, rfl⟩
  · rw [upI_ne q, upI_ne q]
    exact hv j h0 (by omega)
theorem bytes_up2 {len cap y : Int} {f : Int → Int} (hf : ∀ j, 0 ≤ j → j < cap → -128 ≤ f j ∧ f j < 128) (hy : 0 ≤ y ∧ y < 256) : ∀ j, 0 ≤ j → j < cap → -128 ≤ upI f len (sg y) j ∧ upI f len (sg y) j < 128 := by
  intro j h0 h1
  by_cases q : j = len
  · rw [q, upI_eq]; exact sg_r hy
  · rw [upI_ne q]; exact hf j h0 h1
theorem land_127 {a : Int} (h : 0 ≤ a ∧ a < 9223372036854775808) : lI a &&& lI 127 = lI (a % 128) := by
  obtain ⟨n, rfl⟩ : ∃ n : Nat, a = (n : Int) := ⟨a.toNat, by omega⟩
  have e : (n : Int) % 128 = ((n % 128 : Nat) : Int) := by omega
  rw [e]
  apply Int64.toBitVec.inj
  apply BitVec.eq_of_toNat_eq
  simp only [lI, Int64.toBitVec_and, BitVec.toNat_and, Int64.toBitVec_ofInt, BitVec.toNat_ofInt]
  have e2 : (((n : Nat) : Int) % ((2 ^ 64 : Nat) : Int)).toNat = n := by omega
  have e3 : ((127 : Int) % ((2 ^ 64 : Nat) : Int)).toNat = 127 := by decide
  have e4 : ((((n % 128 : Nat) : Int)) % ((2 ^ 64 : Nat) : Int)).toNat = n % 128 := by omega
  rw [e2, e3, e4]
  exact Nat.and_two_pow_sub_one_eq_mod n 7
theorem ior_128 {a : Int} (h : 0 ≤ a ∧ a < 128) : iI a ||| iI 128 = iI (a + 128) := by
  have key : ∀ n : Fin 128, (iI (n.val : Int) ||| iI 128) = iI ((n.val : Int) + 128) := by decide +kernel
  have := key ⟨a.toNat, by omega⟩
  simp only [Int.toNat_of_nonneg h.1] at this
  exact this
theorem lushr_7 {a : Int} (h : 0 ≤ a ∧ a < 9223372036854775808) : ((lI a).toUInt64 >>> ((iI 7).toInt64.toUInt64 &&& Int64.toUInt64 63)).toInt64 = lI (a / 128) := by
  obtain ⟨n, rfl⟩ : ∃ n : Nat, a = (n : Int) := ⟨a.toNat, by omega⟩
  have e : (n : Int) / 128 = ((n / 128 : Nat) : Int) := by omega
  rw [e, show (iI 7).toInt64.toUInt64 &&& Int64.toUInt64 63 = 7 by decide]
  apply Int64.toBitVec.inj
  apply BitVec.eq_of_toNat_eq
  show ((lI (n : Int)).toUInt64 >>> 7).toNat = (lI ((n / 128 : Nat) : Int)).toBitVec.toNat
  rw [UInt64.toNat_shiftRight]
  show (lI (n : Int)).toBitVec.toNat >>> (7 % 64) = _
  simp only [lI, Int64.toBitVec_ofInt, BitVec.toNat_ofInt]
  have e2 : (((n : Nat) : Int) % ((2 ^ 64 : Nat) : Int)).toNat = n := by omega
  have e4 : ((((n / 128 : Nat) : Int)) % ((2 ^ 64 : Nat) : Int)).toNat = n / 128 := by omega
  rw [e2, e4, Nat.shiftRight_eq_div_pow]
set_option maxRecDepth 100000 in
set_option maxHeartbeats 400000 in
theorem c_J7_copyOf_9075b {G : GG} {l : Launch} {w : Wd} {a t : Nat} {cap n : Int} {f : Int → Int} (ha : w a = some (t, .inl (gB G, aI cap f))) (ht : t ≠ 0) (hn : 0 ≤ cap ∧ cap < n ∧ n ≤ 3000000) (hf : ∀ j, 0 ≤ j → j < cap → -128 ≤ f j ∧ f j < 128) : MG G l yJ7_copyOf_9075b wsJ7_copyOf_9075b 2 80 (1) (n.toNat) [.ref a, .int (iI n)] w (pR (fun (x : Option Nat) (w' : Wd) => ∃ b9, x = some b9 ∧ w' b9 = some (0, .inl (gB G, aI n (cpI f (fun _ => 0) 0 0 cap))) ∧ Fr (fun t => t = 0) w w')) := by
  refine MG.of (cc := cJ7_copyOf_9075b) (nL := 3) (ret := (some (.array .byte))) (ll := [some (.ref a), some (.int (iI n)), none]) (by decide) rfl (Nat.le_of_ble_eq_true rfl) rfl ?_
  intro p e s m args below meth c C
  have hts := C.2.2.2.2.1
  refine poR (P := fun PO => V G p l e _ s m args below meth c (MQW G below args s _ _ (pR PO)) w 0 0 0 _ []) (fun PO hPO => ?_)
  obtain ⟨w0, hw0⟩ : ∃ z, z = w := ⟨_, rfl⟩
  rw [← hw0] at hPO
  have hF : Fr (fun t => t = 0) w0 w := by rw [hw0]; exact Fr.rf
  refine v_iload_n C dJ7_copyOf_9075b_0 rfl ?_
  refine v_aload_n C dJ7_copyOf_9075b_1 rfl ?_
  refine v_alen C ha (n := cap) (i := 0) rfl (Int.toNat_of_nonneg (a := cap) (by omega)) dJ7_copyOf_9075b_2 ?_
  refine v_icmp_ne C (⟨by omega, by omega⟩) (⟨by omega, by omega⟩) (tgt := 14) dJ7_copyOf_9075b_3 (by decide) (fun c_3 => ?_) (fun c_3 => ?_)
  · refine v_iload_n C dJ7_copyOf_9075b_14 rfl ?_
    refine v_newB C (0) (List.mem_of_getElem? (i := 7) rfl) (by omega) (by omega) (by dsimp only; omega) (by dsimp only; omega) dJ7_copyOf_9075b_15 (fun a15 ha15 => ?_)
    refine v_fresh ha15 (fun w h15 hF9 hE9 => ?_)
    have ha := hF9 _ _ _ (fun h9 => h9) ha
    have hF := hF.tr (hF9.mono (fun t h9 => h9.elim))
    refine v_astore_n C dJ7_copyOf_9075b_17 bsl_3_2 (by decide) rfl ?_
    refine v_aload_n C dJ7_copyOf_9075b_18 rfl ?_
    refine v_iconst C dJ7_copyOf_9075b_19 ?_
    refine v_aload_n C dJ7_copyOf_9075b_20 rfl ?_
    refine v_iconst C dJ7_copyOf_9075b_21 ?_
    refine v_aload_n C dJ7_copyOf_9075b_22 rfl ?_
    refine v_alen C ha (n := cap) (i := 0) rfl (Int.toNat_of_nonneg (a := cap) (by omega)) dJ7_copyOf_9075b_23 ?_
    refine v_iload_n C dJ7_copyOf_9075b_24 rfl ?_
    refine v_min C (⟨by omega, by omega⟩) (⟨by omega, by omega⟩) (r := cap) (by omega) (List.mem_of_getElem? (i := 8) rfl) (List.mem_of_getElem? (i := 9) rfl) (List.mem_of_getElem? (i := 10) rfl) (List.mem_of_getElem? (i := 11) rfl) (Nat.le_of_ble_eq_true rfl) (Nat.le_of_ble_eq_true rfl) (by dsimp only; omega) (by dsimp only; omega) dJ7_copyOf_9075b_25 ?_
    refine v_copyB C ha h15 (List.mem_of_getElem? (i := 12) rfl) (List.mem_of_getElem? (i := 13) rfl) (List.mem_of_getElem? (i := 14) rfl) (List.mem_of_getElem? (i := 15) rfl) (⟨by omega, by omega, by omega⟩) (⟨by omega, by omega, by omega, by omega⟩) (fun j h8 h9 => hf j (by omega) (by omega)) (Nat.le_of_ble_eq_true rfl) (Nat.le_of_ble_eq_true rfl) dJ7_copyOf_9075b_28 ?_
    refine v_upd h15 (fun w h15 hF9 hE9 => ?_)
    have ha := hF9 _ _ _ (fun h9 => by have h8 : t = 0 := h9; omega) ha
    have hF := hF.tr (hF9.mono (fun t h9 => by have h8 : t = 0 := h9; show t = 0; omega))
    refine v_aload_n C dJ7_copyOf_9075b_31 rfl ?_
    exact v_aret C rfl (Or.inr ⟨_, rfl⟩) dJ7_copyOf_9075b_32 (by omega) (by omega) (hPO _ _ ⟨a15, rfl, h15, hF⟩)
  · exact absurd c_3 (by omega)
set_option maxRecDepth 100000 in
set_option maxHeartbeats 400000 in
theorem c_X0_init {G : GG} {l : Launch} {w : Wd} {r : Nat} {T : Nat} (h1 : w r = some (T, .inr (3, [.null, .int (iI 0)]))) (hT : 0 < T) : MG G l yX0_init wsX0_init 1 40 (1) (64) [.ref r] w (pV (fun (w' : Wd) => BytesAt G w' T r 0 64 (fun _ => 0) ∧ Fr (fun t => t = T ∨ t = T + 1) w w')) := by
  refine MG.of (cc := cX0_init) (nL := 1) (ret := none) (ll := [some (.ref r)]) (by decide) rfl (Nat.le_of_ble_eq_true rfl) rfl ?_
  intro p e s m args below meth c C
  have hts := C.2.2.2.2.1
  have p9 : PutF G s m args 9 3 0 (.array .byte) := putF_of C 3 0 tyX0 tyX0_ok nmX0 (T := TX0) (N := 2) (Cn := RX0) (ref := "TraceBook$Bytes") rfl (by decide) (fun _ h => List.mem_cons_of_mem _ (List.mem_append_right _ (h))) (List.mem_of_getElem? (i := 5) rfl) (fun _ h => h) rfl (by decide +kernel)
  have p15 : PutF G s m args 15 3 1 (.int) := putF_of C 3 1 tyX0 tyX0_ok nmX0 (T := TX0) (N := 2) (Cn := RX0) (ref := "TraceBook$Bytes") rfl (by decide) (fun _ h => List.mem_cons_of_mem _ (List.mem_append_right _ (h))) (List.mem_of_getElem? (i := 6) rfl) (fun _ h => h) rfl (by decide +kernel)
  refine poV (P := fun PO => V G p l e _ s m args below meth c (MQW G below args s _ _ (pV PO)) w 0 0 0 _ []) (fun PO hPO => ?_)
  obtain ⟨w0, hw0⟩ : ∃ z, z = w := ⟨_, rfl⟩
  rw [← hw0] at hPO
  have hF : Fr (fun t => t = T ∨ t = T + 1) w0 w := by rw [hw0]; exact Fr.rf
  refine v_aload_n C dX0_init_0 rfl ?_
  refine v_objInit C (List.mem_of_getElem? (i := 1) rfl) (List.mem_of_getElem? (i := 2) rfl) (List.mem_of_getElem? (i := 3) rfl) (Nat.le_of_ble_eq_true rfl) (Nat.le_of_ble_eq_true rfl) dX0_init_1 ?_
  refine v_aload_n C dX0_init_4 rfl ?_
  refine v_bipush C dX0_init_5 rfl ?_
  refine v_newB C (T + 1) (List.mem_of_getElem? (i := 4) rfl) (by omega) (by omega) (by dsimp only; omega) (by dsimp only; omega) dX0_init_7 (fun a7 ha7 => ?_)
  refine v_fresh ha7 (fun w h7 hF9 hE9 => ?_)
  have h1 := hF9 _ _ _ (fun h9 => h9) h1
  have hF := hF.tr (hF9.mono (fun t h9 => h9.elim))
  refine v_putf C p9 h1 rfl rfl (Nat.le_of_ble_eq_true rfl) dX0_init_9 ?_
  refine v_upd h1 (fun w h1 hF9 hE9 => ?_)
  have h7 := hF9 _ _ _ (fun h9 => by have h8 : T + 1 = T := h9; omega) h7
  have hF := hF.tr (hF9.mono (fun t h9 => by have h8 : t = T := h9; show t = T ∨ t = T + 1; omega))
  refine v_aload_n C dX0_init_12 rfl ?_
  refine v_iconst C dX0_init_13 ?_
  refine v_putf C p15 h1 rfl rfl (Nat.le_of_ble_eq_true rfl) dX0_init_14 ?_
  refine v_upd h1 (fun w h1 hF9 hE9 => ?_)
  have h7 := hF9 _ _ _ (fun h9 => by have h8 : T + 1 = T := h9; omega) h7
  have hF := hF.tr (hF9.mono (fun t h9 => by have h8 : t = T := h9; show t = T ∨ t = T + 1; omega))
  exact v_vret C rfl dX0_init_17 (by omega) (by omega) (hPO _ ⟨⟨a7, _, h1, h7, ⟨by omega, by omega, by omega, by omega⟩, fun j h8 h9 => absurd h8 (by omega), fun j _ _ => ⟨by omega, by omega⟩⟩, hF⟩)
set_option maxRecDepth 100000 in
set_option maxHeartbeats 400000 in
theorem c_X0_get {G : GG} {l : Launch} {w : Wd} {r : Nat} {T : Nat} {len cap : Int} {b : Int → Int} {i : Int} (hB : BytesAt G w T r len cap b) (hi : R32 i) : MG G l yX0_get wsX0_get 1 40 (0) (0) [.ref r, .int (iI i)] w (pI (fun (x : Int) (w' : Wd) => x = (if 0 ≤ i ∧ i < len then b i else 0) ∧ w' = w)) := by
  refine MG.of (cc := cX0_get) (nL := 2) (ret := (some .int)) (ll := [some (.ref r), some (.int (iI i))]) (by decide) rfl (Nat.le_of_ble_eq_true rfl) rfl ?_
  intro p e s m args below meth c C
  have hts := C.2.2.2.2.1
  have g15 : GetF G s m args 15 3 1 := getF_of C 3 1 (T := TX0) (N := 2) (Cn := RX0) (ref := "TraceBook$Bytes") rfl (by decide) (fun _ h => List.mem_cons_of_mem _ (List.mem_append_right _ (h))) (List.mem_of_getElem? (i := 1) rfl) (fun _ h => h)
  have g9 : GetF G s m args 9 3 0 := getF_of C 3 0 (T := TX0) (N := 2) (Cn := RX0) (ref := "TraceBook$Bytes") rfl (by decide) (fun _ h => List.mem_cons_of_mem _ (List.mem_append_right _ (h))) (List.mem_of_getElem? (i := 2) rfl) (fun _ h => h)
  refine poI (P := fun PO => V G p l e _ s m args below meth c (MQW G below args s _ _ (pI PO)) w 0 0 0 _ []) (fun PO hPO => ?_)
  obtain ⟨kq, f, h1, h2, hb, hv, hf⟩ := hB
  refine v_iload_n C dX0_get_0 rfl ?_
  refine v_if_lt C (⟨by omega, by omega⟩) (tgt := 34) dX0_get_1 (by decide) (fun c_1 => ?_) (fun c_1 => ?_)
  · refine v_iconst C dX0_get_34 ?_
    exact v_iret C rfl dX0_get_35 (by omega) (by omega) (hPO _ _ ⟨by rw [if_neg (by omega)], rfl⟩)
  · refine v_iload_n C dX0_get_4 rfl ?_
    refine v_aload_n C dX0_get_5 rfl ?_
    refine v_getf C g15 h1 rfl dX0_get_6 ?_
    refine v_icmp_ge C (⟨by omega, by omega⟩) (⟨by omega, by omega⟩) (tgt := 34) dX0_get_9 (by decide) (fun c_9 => ?_) (fun c_9 => ?_)
    · refine v_iconst C dX0_get_34 ?_
      exact v_iret C rfl dX0_get_35 (by omega) (by omega) (hPO _ _ ⟨by rw [if_neg (by omega)], rfl⟩)
    · refine v_iload_n C dX0_get_12 rfl ?_
      refine v_aload_n C dX0_get_13 rfl ?_
      refine v_getf C g9 h1 rfl dX0_get_14 ?_
      refine v_alen C h2 (n := cap) (i := 0) rfl (Int.toNat_of_nonneg (a := cap) (by omega)) dX0_get_17 ?_
      refine v_icmp_ge C (⟨by omega, by omega⟩) (⟨by omega, by omega⟩) (tgt := 34) dX0_get_18 (by decide) (fun c_18 => ?_) (fun c_18 => ?_)
      · refine v_iconst C dX0_get_34 ?_
        exact v_iret C rfl dX0_get_35 (by omega) (by omega) (hPO _ _ ⟨by rw [if_neg (by omega)], rfl⟩)
      · refine v_aload_n C dX0_get_21 rfl ?_
        refine v_getf C g9 h1 rfl dX0_get_22 ?_
        refine v_iload_n C dX0_get_25 rfl ?_
        refine v_bald C h2 (⟨by omega, by omega⟩) (by omega) (by omega) dX0_get_26 ?_
        refine v_sipush C dX0_get_27 rfl ?_
        refine v_iand C ((by rw [(hv i (by omega) (by omega)).2.2]; exact sg_255 ⟨(hv i (by omega) (by omega)).1, (hv i (by omega) (by omega)).2.1⟩ : iI (f i) &&& iI 255 = iI (b i))) dX0_get_30 ?_
        refine v_goto C (tgt := 35) dX0_get_31 (by decide) ?_
        exact v_iret C rfl dX0_get_35 (by omega) (by omega) (hPO _ _ ⟨by rw [if_pos ⟨by omega, by omega⟩], rfl⟩)
set_option maxRecDepth 100000 in
set_option maxHeartbeats 400000 in
theorem c_X0_add {G : GG} {l : Launch} {w : Wd} {r : Nat} {T : Nat} {len cap : Int} {b : Int → Int} {x9 cap2 : Int} (hB : BytesAt G w T r len cap b) (hT : 0 < T) (hx : R32 x9) (hc : Cap cap (len + 1) cap2) (hc2 : cap2 ≤ 1000000) : MG G l yX0_add wsX0_add 3 120 ((cap2 - cap).toNat) ((2 * (cap2 - cap)).toNat) [.ref r, .int (iI x9)] w (pV (fun (w' : Wd) => BytesAt G w' T r (len + 1) cap2 (upI b len (x9 % 256)) ∧ Fr (fun t => t = T ∨ t = T + 1 ∨ t = 0) w w')) := by
  refine MG.of (cc := cX0_add) (nL := 2) (ret := none) (ll := [some (.ref r), some (.int (iI x9))]) (by decide) rfl (Nat.le_of_ble_eq_true rfl) rfl ?_
  intro p e s m args below meth c C
  have hts := C.2.2.2.2.1
  have g9 : GetF G s m args 9 3 0 := getF_of C 3 0 (T := TX0) (N := 2) (Cn := RX0) (ref := "TraceBook$Bytes") rfl (by decide) (fun _ h => List.mem_cons_of_mem _ (List.mem_append_right _ (h))) (List.mem_of_getElem? (i := 2) rfl) (fun _ h => h)
  have g15 : GetF G s m args 15 3 1 := getF_of C 3 1 (T := TX0) (N := 2) (Cn := RX0) (ref := "TraceBook$Bytes") rfl (by decide) (fun _ h => List.mem_cons_of_mem _ (List.mem_append_right _ (h))) (List.mem_of_getElem? (i := 1) rfl) (fun _ h => h)
  have p15 : PutF G s m args 15 3 1 (.int) := putF_of C 3 1 tyX0 tyX0_ok nmX0 (T := TX0) (N := 2) (Cn := RX0) (ref := "TraceBook$Bytes") rfl (by decide) (fun _ h => List.mem_cons_of_mem _ (List.mem_append_right _ (h))) (List.mem_of_getElem? (i := 1) rfl) (fun _ h => h) rfl (by decide +kernel)
  have p9 : PutF G s m args 9 3 0 (.array .byte) := putF_of C 3 0 tyX0 tyX0_ok nmX0 (T := TX0) (N := 2) (Cn := RX0) (ref := "TraceBook$Bytes") rfl (by decide) (fun _ h => List.mem_cons_of_mem _ (List.mem_append_right _ (h))) (List.mem_of_getElem? (i := 2) rfl) (fun _ h => h) rfl (by decide +kernel)
  refine poV (P := fun PO => V G p l e _ s m args below meth c (MQW G below args s _ _ (pV PO)) w 0 0 0 _ []) (fun PO hPO => ?_)
  obtain ⟨w0, hw0⟩ : ∃ z, z = w := ⟨_, rfl⟩
  rw [← hw0] at hPO
  have hF : Fr (fun t => t = T ∨ t = T + 1 ∨ t = 0) w0 w := by rw [hw0]; exact Fr.rf
  obtain ⟨kq, f, h1, h2, hb, hv, hf⟩ := hB
  have J31 : ∀ (w : Wd) (kq : Nat) (f : Int → Int), (w r = some (T, .inr (3, [.ref kq, .int (iI len)]))) → (w kq = some (T + 1, .inl (gB G, aI cap2 f))) → (Fr (fun t => t = T ∨ t = T + 1 ∨ t = 0) w0 w) → (len < cap2) → (∀ j, 0 ≤ j → j < len → 0 ≤ b j ∧ b j < 256 ∧ f j = sg (b j)) → (∀ j, 0 ≤ j → j < cap2 → -128 ≤ f j ∧ f j < 128) → V G p l e { frames := 3, cells := (cap2 - cap).toNat, slots := (2 * (cap2 - cap)).toNat, locals := 120 } s m args below meth c (MQW G below args s ((cap2 - cap).toNat) ((2 * (cap2 - cap)).toNat) (pV PO)) w ((cap2 - cap).toNat) ((2 * (cap2 - cap)).toNat) 31 [some (.ref r), some (.int (iI x9))] [] := by
    intro w kq f h1 h2 hF hlen hv hf
    refine v_aload_n C dX0_add_31 rfl ?_
    refine v_getf C g9 h1 rfl dX0_add_32 ?_
    refine v_aload_n C dX0_add_35 rfl ?_
    refine v_getf C g15 h1 rfl dX0_add_36 ?_
    refine v_iload_n C dX0_add_39 rfl ?_
    refine v_i2b C ((sg_i8 hx : (iI x9).toInt8.toInt32 = iI (sg (x9 % 256)))) dX0_add_40 ?_
    refine v_bast C h2 (⟨by omega, by omega⟩) (by omega) (by omega) (sg_idem (y := x9 % 256) ⟨by omega, by omega⟩) dX0_add_41 ?_
    refine v_upd h2 (fun w h2 hF9 hE9 => ?_)
    have h1 := hF9 _ _ _ (fun h9 => by have h8 : T = T + 1 := h9; omega) h1
    have hF := hF.tr (hF9.mono (fun t h9 => by have h8 : t = T + 1 := h9; show t = T ∨ t = T + 1 ∨ t = 0; omega))
    refine v_aload_n C dX0_add_42 rfl ?_
    refine v_dup C rfl dX0_add_43 ?_
    refine v_getf C g15 h1 rfl dX0_add_44 ?_
    refine v_iconst C dX0_add_47 ?_
    refine v_iadd C dX0_add_48 ?_
    refine v_putf C p15 h1 rfl rfl (Nat.le_of_ble_eq_true rfl) dX0_add_49 ?_
    refine v_upd h1 (fun w h1 hF9 hE9 => ?_)
    have h2 := hF9 _ _ _ (fun h9 => by have h8 : T + 1 = T := h9; omega) h2
    have hF := hF.tr (hF9.mono (fun t h9 => by have h8 : t = T := h9; show t = T ∨ t = T + 1 ∨ t = 0; omega))
    exact v_vret C rfl dX0_add_52 (by omega) (by omega) (hPO _ ⟨⟨kq, _, h1, h2, ⟨by omega, by omega, by have := hc.ge (by omega); omega, hc2⟩, bytes_up hv ⟨by omega, by omega⟩, bytes_up2 hf ⟨by omega, by omega⟩⟩, hF⟩)
  refine v_aload_n C dX0_add_0 rfl ?_
  refine v_getf C g15 h1 rfl dX0_add_1 ?_
  refine v_aload_n C dX0_add_4 rfl ?_
  refine v_getf C g9 h1 rfl dX0_add_5 ?_
  refine v_alen C h2 (n := cap) (i := 0) rfl (Int.toNat_of_nonneg (a := cap) (by omega)) dX0_add_8 ?_
  refine v_icmp_lt C (⟨by omega, by omega⟩) (⟨by omega, by omega⟩) (tgt := 31) dX0_add_9 (by decide) (fun c_9 => ?_) (fun c_9 => ?_)
  · have hq := hc.stay (by omega) (by omega)
    refine v_wide (k' := (cap2 - cap).toNat) (z' := (2 * (cap2 - cap)).toNat) (by omega) (by omega) ?_
    exact J31 w kq f h1 (by rw [hq]; exact h2) hF (by omega) hv (fun j a b => hf j a (by omega))
  · have hlc : len = cap := by omega
    have hq := hc.grow (by omega) (by omega) (by omega)
    refine v_aload_n C dX0_add_12 rfl ?_
    refine v_aload_n C dX0_add_13 rfl ?_
    refine v_getf C g9 h1 rfl dX0_add_14 ?_
    refine v_iconst C dX0_add_17 ?_
    refine v_aload_n C dX0_add_18 rfl ?_
    refine v_getf C g15 h1 rfl dX0_add_19 ?_
    refine v_imul C dX0_add_22 ?_
    refine v_iconst C dX0_add_23 ?_
    refine v_iadd C dX0_add_24 ?_
    refine v_callSr C (b := 0) (t := 0) (ci := 0) (fs := []) (q := (RX7, TX7, 33)) (As := [_, _]) (rest := [_]) (c_J7_copyOf_9075b h2 (by omega) ⟨by omega, by omega, by omega⟩ hf) (va_cwS 2 hts gX0_add_J7_copyOf_9075b rfl rfl rfl (by decide +kernel) ⟨Nat.le_of_ble_eq_true rfl, Nat.le_of_ble_eq_true rfl⟩) rfl rfl (Nat.le_of_ble_eq_true rfl) dX0_add_25 (by dsimp only; omega) (by dsimp only; omega) (fun x_25 w hp => ?_)
    obtain ⟨b9, rfl, h3, hF9⟩ := hp
    have h1 := hF9 _ _ _ (fun h9 => by have h8 : T = 0 := h9; omega) h1
    have h2 := hF9 _ _ _ (fun h9 => by have h8 : T + 1 = 0 := h9; omega) h2
    have hF := hF.tr (hF9.mono (fun t h9 => by have h8 : t = 0 := h9; show t = T ∨ t = T + 1 ∨ t = 0; omega))
    refine v_retag h3 (T + 1) (fun w h3 hF9 hE9 => ?_)
    have h1 := hF9 _ _ _ (fun h9 => by have h8 : T = 0 := h9; omega) h1
    have h2 := hF9 _ _ _ (fun h9 => by have h8 : T + 1 = 0 := h9; omega) h2
    have hF := hF.tr (hF9.mono (fun t h9 => by have h8 : t = 0 := h9; show t = T ∨ t = T + 1 ∨ t = 0; omega))
    refine v_putf C p9 h1 rfl rfl (Nat.le_of_ble_eq_true rfl) dX0_add_28 ?_
    refine v_upd h1 (fun w h1 hF9 hE9 => ?_)
    have h2 := hF9 _ _ _ (fun h9 => by have h8 : T + 1 = T := h9; omega) h2
    have h3 := hF9 _ _ _ (fun h9 => by have h8 : T + 1 = T := h9; omega) h3
    have hF := hF.tr (hF9.mono (fun t h9 => by have h8 : t = T := h9; show t = T ∨ t = T + 1 ∨ t = 0; omega))
    refine v_wide (k' := (cap2 - cap).toNat) (z' := (2 * (cap2 - cap)).toNat) (by omega) (by omega) ?_
    refine J31 w b9 _ h1 (by rw [hq, ← hlc]; exact h3) hF (by omega) (fun j a q => ?_) (fun j a q => ?_)
    · rw [cpI_in ⟨by omega, by omega⟩, show 0 + (j - 0) = j by omega]; exact hv j a q
    · by_cases q2 : j < cap
      · rw [cpI_in ⟨by omega, by omega⟩, show 0 + (j - 0) = j by omega]; exact hf j a q2
      · rw [cpI_out (by omega)]; exact ⟨by omega, by omega⟩
set_option maxRecDepth 100000 in
set_option maxHeartbeats 400000 in
theorem c_X0_cut {G : GG} {l : Launch} {w : Wd} {r : Nat} {T : Nat} {len cap : Int} {b : Int → Int} {n : Int} (hB : BytesAt G w T r len cap b) (hn : 0 ≤ n ∧ n ≤ len) : MG G l yX0_cut wsX0_cut 1 40 (0) (0) [.ref r, .int (iI n)] w (pV (fun (w' : Wd) => BytesAt G w' T r n cap b ∧ Fr (fun t => t = T ∨ t = T + 1 ∨ t = 0) w w')) := by
  refine MG.of (cc := cX0_cut) (nL := 2) (ret := none) (ll := [some (.ref r), some (.int (iI n))]) (by decide) rfl (Nat.le_of_ble_eq_true rfl) rfl ?_
  intro p e s m args below meth c C
  have hts := C.2.2.2.2.1
  have g15 : GetF G s m args 15 3 1 := getF_of C 3 1 (T := TX0) (N := 2) (Cn := RX0) (ref := "TraceBook$Bytes") rfl (by decide) (fun _ h => List.mem_cons_of_mem _ (List.mem_append_right _ (h))) (List.mem_of_getElem? (i := 1) rfl) (fun _ h => h)
  have p15 : PutF G s m args 15 3 1 (.int) := putF_of C 3 1 tyX0 tyX0_ok nmX0 (T := TX0) (N := 2) (Cn := RX0) (ref := "TraceBook$Bytes") rfl (by decide) (fun _ h => List.mem_cons_of_mem _ (List.mem_append_right _ (h))) (List.mem_of_getElem? (i := 1) rfl) (fun _ h => h) rfl (by decide +kernel)
  refine poV (P := fun PO => V G p l e _ s m args below meth c (MQW G below args s _ _ (pV PO)) w 0 0 0 _ []) (fun PO hPO => ?_)
  obtain ⟨w0, hw0⟩ : ∃ z, z = w := ⟨_, rfl⟩
  rw [← hw0] at hPO
  have hF : Fr (fun t => t = T ∨ t = T + 1 ∨ t = 0) w0 w := by rw [hw0]; exact Fr.rf
  obtain ⟨kq, f, h1, h2, hb, hv, hf⟩ := hB
  refine v_iload_n C dX0_cut_0 rfl ?_
  refine v_if_lt C (⟨by omega, by omega⟩) (tgt := 17) dX0_cut_1 (by decide) (fun c_1 => ?_) (fun c_1 => ?_)
  · exact absurd c_1 (by omega)
  · refine v_iload_n C dX0_cut_4 rfl ?_
    refine v_aload_n C dX0_cut_5 rfl ?_
    refine v_getf C g15 h1 rfl dX0_cut_6 ?_
    refine v_icmp_gt C (⟨by omega, by omega⟩) (⟨by omega, by omega⟩) (tgt := 17) dX0_cut_9 (by decide) (fun c_9 => ?_) (fun c_9 => ?_)
    · exact absurd c_9 (by omega)
    · refine v_aload_n C dX0_cut_12 rfl ?_
      refine v_iload_n C dX0_cut_13 rfl ?_
      refine v_putf C p15 h1 rfl rfl (Nat.le_of_ble_eq_true rfl) dX0_cut_14 ?_
      refine v_upd h1 (fun w h1 hF9 hE9 => ?_)
      have h2 := hF9 _ _ _ (fun h9 => by have h8 : T + 1 = T := h9; omega) h2
      have hF := hF.tr (hF9.mono (fun t h9 => by have h8 : t = T := h9; show t = T ∨ t = T + 1 ∨ t = 0; omega))
      exact v_vret C rfl dX0_cut_17 (by omega) (by omega) (hPO _ ⟨⟨kq, f, h1, h2, ⟨by omega, by omega, by omega, by omega⟩, fun j a q => hv j a (by omega), hf⟩, hF⟩)
set_option maxRecDepth 100000 in
set_option maxHeartbeats 400000 in
theorem c_X0_addCount {G : GG} {l : Launch} {w : Wd} {r : Nat} {T : Nat} {len cap : Int} {b : Int → Int} {v9 cap2 : Int} (hB : BytesAt G w T r len cap b) (hT : 0 < T) (hv9 : 0 ≤ v9 ∧ v9 < 4611686018427387904) (hc : Cap cap (len + (c7 v9).length) cap2) (hc2 : cap2 ≤ 1000000) : MG G l yX0_addCount wsX0_addCount 4 160 ((cap2 - cap).toNat) ((2 * (cap2 - cap)).toNat) [.ref r, .long (lI v9)] w (pV (fun (w' : Wd) => BytesAt G w' T r (len + (c7 v9).length) cap2 (putL b len (c7 v9)) ∧ Fr (fun t => t = T ∨ t = T + 1 ∨ t = 0) w w')) := by
  refine MG.of (cc := cX0_addCount) (nL := 6) (ret := none) (ll := [some (.ref r), some (.long (lI v9)), none, none, none, none]) (by decide) rfl (Nat.le_of_ble_eq_true rfl) rfl ?_
  intro p e s m args below meth c C
  have hts := C.2.2.2.2.1
  refine poV (P := fun PO => V G p l e _ s m args below meth c (MQW G below args s _ _ (pV PO)) w 0 0 0 _ []) (fun PO hPO => ?_)
  obtain ⟨w0, hw0⟩ : ∃ z, z = w := ⟨_, rfl⟩
  rw [← hw0] at hPO
  have hF : Fr (fun t => t = T ∨ t = T + 1 ∨ t = 0) w0 w := by rw [hw0]; exact Fr.rf
  have hg0 := hB.rg
  have hl9 := c7_le 8 v9 (by omega)
  refine v_lload_n C dX0_addCount_0 rfl ?_
  refine v_lstore_n C dX0_addCount_1 bsj_6_3 (by decide) (Nat.le_of_ble_eq_true rfl) rfl ?_
  refine v_iconst C dX0_addCount_2 ?_
  refine v_istore C dX0_addCount_3 bsl_6_5 (by decide) rfl ?_
  have L5 : ∀ (N : Nat) (w : Wd) (rest k9 len1 cap1 : Int) (b1 : Int → Int), (BytesAt G w T r len1 cap1 b1) → (Fr (fun t => t = T ∨ t = T + 1 ∨ t = 0) w0 w) → (0 ≤ rest ∧ rest < 4611686018427387904 ∧ 1 ≤ k9 ∧ k9 - 1 + (c7 rest).length = (c7 v9).length) → (putL b1 len1 (c7 rest) = putL b len (c7 v9) ∧ len1 + (c7 rest).length = len + (c7 v9).length ∧ len ≤ len1) → (Cap cap len1 cap1) → (9 - k9).toNat < N → V G p l e { frames := 4, cells := (cap2 - cap).toNat, slots := (2 * (cap2 - cap)).toNat, locals := 160 } s m args below meth c (MQW G below args s ((cap2 - cap).toNat) ((2 * (cap2 - cap)).toNat) (pV PO)) w ((cap1 - cap).toNat) ((2 * (cap1 - cap)).toNat) 5 [some (.ref r), none, none, some (.long (lI rest)), none, some (.int (iI k9))] [] := by
    intro N
    induction N with
    | zero => intro w rest k9 len1 cap1 b1 hB hF hr hp9 hcp hm; exact absurd hm (Nat.not_lt_zero _)
    | succ N ih =>
      intro w rest k9 len1 cap1 b1 hB hF hr hp9 hcp hm
      refine v_iload C dX0_addCount_5 rfl ?_
      refine v_bipush C dX0_addCount_7 rfl ?_
      refine v_icmp_ge C (⟨by omega, by omega⟩) (⟨by omega, by omega⟩) (tgt := 45) dX0_addCount_9 (by decide) (fun c_9 => ?_) (fun c_9 => ?_)
      · have hlt : rest < 128 := by
          by_cases q : rest < 128
          · exact q
          · have e1 : (c7 rest).length = (c7 (rest / 128)).length + 1 := by rw [c7_ge (by omega)]; rfl
            have e2 := c7pos (rest / 128)
            have e3 := c7_le 8 v9 (by omega)
            omega
        have hg := hB.rg
        obtain ⟨cN, hcN⟩ := Cap.ex (c := cap1) (l := len1 + 1) (by omega)
        have hge := hcp.ge (by omega)
        have hgN := hcN.ge (by omega)
        have hpo := c7pos rest
        have hN := (hcp.tr (by omega) hcN (by omega)).mono hc (by omega)
        have hN2 : cN ≤ 1000000 := by omega
        refine v_aload_n C dX0_addCount_45 rfl ?_
        refine v_lload_n C dX0_addCount_46 rfl ?_
        refine v_l2i C dX0_addCount_47 ?_
        refine v_callVv C (q := (RX0, TX0, 2)) (As := [_]) (rest := []) (c_X0_add hB hT ⟨by omega, by omega⟩ hcN hN2) (cwV 1 hts gX0_addCount_X0_add rfl rfl rfl (by decide +kernel) ⟨Nat.le_of_ble_eq_true rfl, Nat.le_of_ble_eq_true rfl⟩) (hB.obj.choose_spec) rfl rfl rfl (Nat.le_of_ble_eq_true rfl) dX0_addCount_48 (by dsimp only; omega) (by dsimp only; omega) (fun w hp => ?_)
        obtain ⟨hB, hF9⟩ := hp
        have hF := hF.tr (hF9.mono (fun t h9 => by have h8 : t = T ∨ t = T + 1 ∨ t = 0 := h9; show t = T ∨ t = T + 1 ∨ t = 0; omega))
        exact v_vret C rfl dX0_addCount_51 (by omega) (by omega) (hPO _ ⟨by
            have e1 : len1 + 1 = len + (c7 v9).length := by rw [← hp9.2.1, c7_lt hlt]; rfl
            have e2 : cN = cap2 := (hcp.tr (by omega) hcN (by omega)).uniq (by rw [e1]; exact hc)
            rw [← e1, ← e2, ← hp9.1, c7_lt hlt, show rest = rest % 256 by omega]
            exact hB, hF⟩)
      · refine v_lload_n C dX0_addCount_12 rfl ?_
        refine v_ldc2 C (v := 127) (List.mem_of_getElem? (i := 1) rfl) (by decide +kernel) dX0_addCount_13 ?_
        refine v_lcmp_le C (⟨by omega, by omega⟩) (⟨by omega, by omega⟩) (tgt := 45) dX0_addCount_16 dX0_addCount_17 (by decide) (fun c_16 => ?_) (fun c_16 => ?_)
        · have hlt : rest < 128 := by
            by_cases q : rest < 128
            · exact q
            · have e1 : (c7 rest).length = (c7 (rest / 128)).length + 1 := by rw [c7_ge (by omega)]; rfl
              have e2 := c7pos (rest / 128)
              have e3 := c7_le 8 v9 (by omega)
              omega
          have hg := hB.rg
          obtain ⟨cN, hcN⟩ := Cap.ex (c := cap1) (l := len1 + 1) (by omega)
          have hge := hcp.ge (by omega)
          have hgN := hcN.ge (by omega)
          have hpo := c7pos rest
          have hN := (hcp.tr (by omega) hcN (by omega)).mono hc (by omega)
          have hN2 : cN ≤ 1000000 := by omega
          refine v_aload_n C dX0_addCount_45 rfl ?_
          refine v_lload_n C dX0_addCount_46 rfl ?_
          refine v_l2i C dX0_addCount_47 ?_
          refine v_callVv C (q := (RX0, TX0, 2)) (As := [_]) (rest := []) (c_X0_add hB hT ⟨by omega, by omega⟩ hcN hN2) (cwV 1 hts gX0_addCount_X0_add rfl rfl rfl (by decide +kernel) ⟨Nat.le_of_ble_eq_true rfl, Nat.le_of_ble_eq_true rfl⟩) (hB.obj.choose_spec) rfl rfl rfl (Nat.le_of_ble_eq_true rfl) dX0_addCount_48 (by dsimp only; omega) (by dsimp only; omega) (fun w hp => ?_)
          obtain ⟨hB, hF9⟩ := hp
          have hF := hF.tr (hF9.mono (fun t h9 => by have h8 : t = T ∨ t = T + 1 ∨ t = 0 := h9; show t = T ∨ t = T + 1 ∨ t = 0; omega))
          exact v_vret C rfl dX0_addCount_51 (by omega) (by omega) (hPO _ ⟨by
              have e1 : len1 + 1 = len + (c7 v9).length := by rw [← hp9.2.1, c7_lt hlt]; rfl
              have e2 : cN = cap2 := (hcp.tr (by omega) hcN (by omega)).uniq (by rw [e1]; exact hc)
              rw [← e1, ← e2, ← hp9.1, c7_lt hlt, show rest = rest % 256 by omega]
              exact hB, hF⟩)
        · have h18 : 128 ≤ rest := by omega
          have hg := hB.rg
          obtain ⟨cN, hcN⟩ := Cap.ex (c := cap1) (l := len1 + 1) (by omega)
          have hge := hcp.ge (by omega)
          have hgN := hcN.ge (by omega)
          have hpo := c7pos rest
          have hN := (hcp.tr (by omega) hcN (by omega)).mono hc (by omega)
          have hN2 : cN ≤ 1000000 := by omega
          refine v_aload_n C dX0_addCount_20 rfl ?_
          refine v_lload_n C dX0_addCount_21 rfl ?_
          refine v_ldc2 C (v := 127) (List.mem_of_getElem? (i := 1) rfl) (by decide +kernel) dX0_addCount_22 ?_
          refine v_land C ((land_127 ⟨by omega, by omega⟩ : lI rest &&& lI 127 = lI (rest % 128))) dX0_addCount_25 ?_
          refine v_l2i C dX0_addCount_26 ?_
          refine v_sipush C dX0_addCount_27 rfl ?_
          refine v_ior C ((ior_128 ⟨by omega, by omega⟩ : iI (rest % 128) ||| iI 128 = iI (rest % 128 + 128))) dX0_addCount_30 ?_
          refine v_callVv C (q := (RX0, TX0, 2)) (As := [_]) (rest := []) (c_X0_add hB hT ⟨by omega, by omega⟩ hcN hN2) (cwV 1 hts gX0_addCount_X0_add rfl rfl rfl (by decide +kernel) ⟨Nat.le_of_ble_eq_true rfl, Nat.le_of_ble_eq_true rfl⟩) (hB.obj.choose_spec) rfl rfl rfl (Nat.le_of_ble_eq_true rfl) dX0_addCount_31 (by dsimp only; omega) (by dsimp only; omega) (fun w hp => ?_)
          obtain ⟨hB, hF9⟩ := hp
          have hF := hF.tr (hF9.mono (fun t h9 => by have h8 : t = T ∨ t = T + 1 ∨ t = 0 := h9; show t = T ∨ t = T + 1 ∨ t = 0; omega))
          refine v_lload_n C dX0_addCount_34 rfl ?_
          refine v_bipush C dX0_addCount_35 rfl ?_
          refine v_lushr C ((lushr_7 ⟨by omega, by omega⟩ : ((lI rest).toUInt64 >>> ((iI 7).toInt64.toUInt64 &&& Int64.toUInt64 63)).toInt64 = lI (rest / 128))) dX0_addCount_37 ?_
          refine v_lstore_n C dX0_addCount_38 bsj_6_3 (by decide) (Nat.le_of_ble_eq_true rfl) rfl ?_
          refine v_iinc C dX0_addCount_39 rfl bsl_6_5 (by decide) rfl ?_
          refine v_goto C (tgt := 5) dX0_addCount_42 (by decide) ?_
          have hb9 : 128 ≤ rest := by omega
          have hl9 := c7_ge hb9
          have hlen9 : (c7 rest).length = (c7 (rest / 128)).length + 1 := by rw [hl9]; rfl
          refine v_wide (k' := (cN - cap).toNat) (z' := (2 * (cN - cap)).toNat) (by omega) (by omega) ?_
          exact ih w (rest / 128) (k9 + 1) (len1 + 1) cN _ hB hF ⟨by omega, by omega, by omega, by omega⟩ ⟨by rw [← hp9.1, hl9, show (rest % 128 + 128) % 256 = rest % 128 + 128 by omega]; rfl, by omega, by omega⟩ (hcp.tr (by omega) hcN (by omega)) (by omega)
  refine v_kill 1 bsk_6_1 ?_
  refine v_wide (k' := (cap - cap).toNat) (z' := (2 * (cap - cap)).toNat) (by omega) (by omega) ?_
  exact L5 _ w v9 1 len cap b hB hF ⟨by omega, by omega, by omega, by omega⟩ ⟨rfl, rfl, by omega⟩ (Cap.here (by omega) (by omega)) (Nat.lt_succ_self _)
