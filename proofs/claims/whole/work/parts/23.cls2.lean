
set_option maxRecDepth 100000 in
set_option maxHeartbeats 400000 in
theorem c_X5_init {G : GG} {l : Launch} {w : Wd} {r : Nat}  (h1 : w r = some (2, .inr (8, [.null, .int (iI 0)]))) : MG G l yX5_init wsX5_init 1 40 (1) (200) [.ref r] w (pV (fun (w' : Wd) => WiresAt G w' r 0 (fun _ => 0) ∧ Fr (fun t => t = 2 ∨ t = 3) w w')) := by
  refine MG.of (cc := cX5_init) (nL := 1) (ret := none) (ll := [some (.ref r)]) (by decide) rfl (Nat.le_of_ble_eq_true rfl) rfl ?_
  intro p e s m args below meth c C
  have hts := C.2.2.2.2.1
  have p9 : PutX G s m args meth 9 8 0 (.array .int) := putX_of C 8 0 tyX5 tyX5_ok nmX5 (T := TX5) (N := 2) (Cn := RX5) (ref := "TraceBook$Wires") rfl (by decide) (fun _ h => List.mem_cons_of_mem _ (List.mem_append_right _ (h))) (List.mem_of_getElem? (i := 5) rfl) (fun _ h => h) rfl rfl rfl (by decide +kernel)
  have p15 : PutF G s m args 15 8 1 (.int) := putF_of C 8 1 tyX5 tyX5_ok nmX5 (T := TX5) (N := 2) (Cn := RX5) (ref := "TraceBook$Wires") rfl (by decide) (fun _ h => List.mem_cons_of_mem _ (List.mem_append_right _ (h))) (List.mem_of_getElem? (i := 6) rfl) (fun _ h => h) rfl (by decide +kernel)
  refine poV (P := fun PO => V G p l e _ s m args below meth c (MQW G below args s _ _ (pV PO)) w 0 0 0 _ []) (fun PO hPO => ?_)
  obtain ⟨w0, hw0⟩ : ∃ z, z = w := ⟨_, rfl⟩
  rw [← hw0] at hPO
  have hF : Fr (fun t => t = 2 ∨ t = 3) w0 w := by rw [hw0]; exact Fr.rf
  refine v_aload_n C dX5_init_0 rfl ?_
  refine v_objInit C (List.mem_of_getElem? (i := 1) rfl) (List.mem_of_getElem? (i := 2) rfl) (List.mem_of_getElem? (i := 3) rfl) (Nat.le_of_ble_eq_true rfl) (Nat.le_of_ble_eq_true rfl) dX5_init_1 ?_
  refine v_aload_n C dX5_init_4 rfl ?_
  refine v_sipush C dX5_init_5 rfl ?_
  refine v_newI C (3) (List.mem_of_getElem? (i := 4) rfl) (by omega) (by omega) (by dsimp only; omega) (by dsimp only; omega) dX5_init_8 (fun a8 ha8 => ?_)
  refine v_fresh ha8 (fun w h8 hF9 hE9 => ?_)
  have h1 := hF9 _ _ _ (fun h9 => h9) h1
  have hF := hF.tr (hF9.mono (fun t h9 => h9.elim))
  refine v_putX C p9 h1 rfl rfl (Nat.le_of_ble_eq_true rfl) dX5_init_10 ?_
  refine v_upd h1 (fun w h1 hF9 hE9 => ?_)
  have h8 := hF9 _ _ _ (fun h9 => by have h8 : 3 = 2 := h9; omega) h8
  have hF := hF.tr (hF9.mono (fun t h9 => by have h8 : t = 2 := h9; show t = 2 ∨ t = 3; omega))
  refine v_aload_n C dX5_init_13 rfl ?_
  refine v_iconst C dX5_init_14 ?_
  refine v_putf C p15 h1 rfl rfl (Nat.le_of_ble_eq_true rfl) dX5_init_15 ?_
  refine v_upd h1 (fun w h1 hF9 hE9 => ?_)
  have h8 := hF9 _ _ _ (fun h9 => by have h8 : 3 = 2 := h9; omega) h8
  have hF := hF.tr (hF9.mono (fun t h9 => by have h8 : t = 2 := h9; show t = 2 ∨ t = 3; omega))
  exact v_vret C rfl dX5_init_18 (by omega) (by omega) (hPO _ ⟨⟨a8, _, h1, h8, ⟨by omega, by omega⟩, fun j _ _ => rfl⟩, hF⟩)
set_option maxRecDepth 100000 in
set_option maxHeartbeats 400000 in
theorem c_X5_has {G : GG} {l : Launch} {w : Wd} {r : Nat} {n : Int} {A1 : Int → Int} {i : Int} (hB : WiresAt G w r n A1) (hi : R32 i) : MG G l yX5_has wsX5_has 1 40 (0) (0) [.ref r, .int (iI i)] w (pI (fun (x : Int) (w' : Wd) => BP x (0 ≤ i ∧ i < n) ∧ w' = w)) := by
  refine MG.of (cc := cX5_has) (nL := 2) (ret := (some .boolean)) (ll := [some (.ref r), some (.int (iI i))]) (by decide) rfl (Nat.le_of_ble_eq_true rfl) rfl ?_
  intro p e s m args below meth c C
  have hts := C.2.2.2.2.1
  have g15 : GetF G s m args 15 8 1 := getF_of C 8 1 (T := TX5) (N := 2) (Cn := RX5) (ref := "TraceBook$Wires") rfl (by decide) (fun _ h => List.mem_cons_of_mem _ (List.mem_append_right _ (h))) (List.mem_of_getElem? (i := 1) rfl) (fun _ h => h)
  have g9 : GetF G s m args 9 8 0 := getF_of C 8 0 (T := TX5) (N := 2) (Cn := RX5) (ref := "TraceBook$Wires") rfl (by decide) (fun _ h => List.mem_cons_of_mem _ (List.mem_append_right _ (h))) (List.mem_of_getElem? (i := 2) rfl) (fun _ h => h)
  refine poI (P := fun PO => V G p l e _ s m args below meth c (MQW G below args s _ _ (pI PO)) w 0 0 0 _ []) (fun PO hPO => ?_)
  obtain ⟨kq, f, h1, h2, hb, hv⟩ := hB
  refine v_iload_n C dX5_has_0 rfl ?_
  refine v_if_lt C (⟨by omega, by omega⟩) (tgt := 25) dX5_has_1 (by decide) (fun c_1 => ?_) (fun c_1 => ?_)
  · refine v_iconst C dX5_has_25 ?_
    exact v_zret C rfl (by omega) dX5_has_26 (by omega) (by omega) (hPO _ _ ⟨Or.inr ⟨rfl, by omega⟩, rfl⟩)
  · refine v_iload_n C dX5_has_4 rfl ?_
    refine v_aload_n C dX5_has_5 rfl ?_
    refine v_getf C g15 h1 rfl dX5_has_6 ?_
    refine v_icmp_ge C (⟨by omega, by omega⟩) (⟨by omega, by omega⟩) (tgt := 25) dX5_has_9 (by decide) (fun c_9 => ?_) (fun c_9 => ?_)
    · refine v_iconst C dX5_has_25 ?_
      exact v_zret C rfl (by omega) dX5_has_26 (by omega) (by omega) (hPO _ _ ⟨Or.inr ⟨rfl, by omega⟩, rfl⟩)
    · refine v_iload_n C dX5_has_12 rfl ?_
      refine v_aload_n C dX5_has_13 rfl ?_
      refine v_getf C g9 h1 rfl dX5_has_14 ?_
      refine v_alen C h2 (n := 200) (i := 1) rfl (Int.toNat_of_nonneg (a := 200) (by omega)) dX5_has_17 ?_
      refine v_icmp_ge C (⟨by omega, by omega⟩) (⟨by omega, by omega⟩) (tgt := 25) dX5_has_18 (by decide) (fun c_18 => ?_) (fun c_18 => ?_)
      · refine v_iconst C dX5_has_25 ?_
        exact v_zret C rfl (by omega) dX5_has_26 (by omega) (by omega) (hPO _ _ ⟨Or.inr ⟨rfl, by omega⟩, rfl⟩)
      · refine v_iconst C dX5_has_21 ?_
        refine v_goto C (tgt := 26) dX5_has_22 (by decide) ?_
        exact v_zret C rfl (by omega) dX5_has_26 (by omega) (by omega) (hPO _ _ ⟨Or.inl ⟨rfl, by omega, by omega⟩, rfl⟩)
set_option maxRecDepth 100000 in
set_option maxHeartbeats 400000 in
theorem c_X5_widthOf {G : GG} {l : Launch} {w : Wd} {r : Nat} {n : Int} {A1 : Int → Int} {i : Int} (hB : WiresAt G w r n A1) (hi : R32 i) : MG G l yX5_widthOf wsX5_widthOf 2 80 (0) (0) [.ref r, .int (iI i)] w (pI (fun (x : Int) (w' : Wd) => x = (if 0 ≤ i ∧ i < n then A1 i else 0) ∧ w' = w)) := by
  refine MG.of (cc := cX5_widthOf) (nL := 2) (ret := (some .int)) (ll := [some (.ref r), some (.int (iI i))]) (by decide) rfl (Nat.le_of_ble_eq_true rfl) rfl ?_
  intro p e s m args below meth c C
  have hts := C.2.2.2.2.1
  have g9 : GetF G s m args 9 8 0 := getF_of C 8 0 (T := TX5) (N := 2) (Cn := RX5) (ref := "TraceBook$Wires") rfl (by decide) (fun _ h => List.mem_cons_of_mem _ (List.mem_append_right _ (h))) (List.mem_of_getElem? (i := 1) rfl) (fun _ h => h)
  refine poI (P := fun PO => V G p l e _ s m args below meth c (MQW G below args s _ _ (pI PO)) w 0 0 0 _ []) (fun PO hPO => ?_)
  obtain ⟨kq, f, h1, h2, hb, hv⟩ := id hB
  refine v_aload_n C dX5_widthOf_0 rfl ?_
  refine v_iload_n C dX5_widthOf_1 rfl ?_
  refine v_callVi C (q := (RX5, TX5, 2)) (As := [_]) (rest := []) (c_X5_has hB hi) (cwV 1 hts gX5_widthOf_X5_has rfl rfl rfl (by decide +kernel) ⟨Nat.le_of_ble_eq_true rfl, Nat.le_of_ble_eq_true rfl⟩) (h1) rfl rfl rfl (Nat.le_of_ble_eq_true rfl) dX5_widthOf_2 (by dsimp only; omega) (by dsimp only; omega) (fun x_2 w hp => ?_)
  obtain ⟨hq2, rfl⟩ := hp
  refine v_wide (k' := 0) (z' := 0) (Nat.le_refl _) (Nat.le_refl _) ?_
  refine v_if_eq C (hq2.r32) (tgt := 17) dX5_widthOf_5 (by decide) (fun c_5 => ?_) (fun c_5 => ?_)
  · refine v_iconst C dX5_widthOf_17 ?_
    exact v_iret C rfl dX5_widthOf_18 (by omega) (by omega) (hPO _ _ ⟨by rw [if_neg (hq2.z c_5)], rfl⟩)
  · have hz := hq2.nz c_5
    refine v_aload_n C dX5_widthOf_8 rfl ?_
    refine v_getf C g9 h1 rfl dX5_widthOf_9 ?_
    refine v_iload_n C dX5_widthOf_12 rfl ?_
    refine v_iald C h2 (⟨by omega, by omega⟩) (by omega) (by omega) dX5_widthOf_13 ?_
    refine v_goto C (tgt := 18) dX5_widthOf_14 (by decide) ?_
    exact v_iret C rfl dX5_widthOf_18 (by omega) (by omega) (hPO _ _ ⟨by rw [if_pos hz, hv i hz.1 hz.2], rfl⟩)
set_option maxRecDepth 100000 in
set_option maxHeartbeats 400000 in
theorem c_X5_hasElement {G : GG} {l : Launch} {w : Wd} {r : Nat} {n : Int} {A1 : Int → Int} {i e9 : Int} (hB : WiresAt G w r n A1) (hi : R32 i) (he : R32 e9) (hA : ∀ i, 0 ≤ i → i < n → 1 ≤ A1 i ∧ A1 i ≤ 64) : MG G l yX5_hasElement wsX5_hasElement 3 120 (0) (0) [.ref r, .int (iI i), .int (iI e9)] w (pI (fun (x : Int) (w' : Wd) => BP x ((0 ≤ i ∧ i < n) ∧ 0 ≤ e9 ∧ e9 < A1 i) ∧ w' = w)) := by
  refine MG.of (cc := cX5_hasElement) (nL := 3) (ret := (some .boolean)) (ll := [some (.ref r), some (.int (iI i)), some (.int (iI e9))]) (by decide) rfl (Nat.le_of_ble_eq_true rfl) rfl ?_
  intro p e s m args below meth c C
  have hts := C.2.2.2.2.1
  refine poI (P := fun PO => V G p l e _ s m args below meth c (MQW G below args s _ _ (pI PO)) w 0 0 0 _ []) (fun PO hPO => ?_)
  obtain ⟨kq, f, h1, h2, hb, hv⟩ := id hB
  refine v_aload_n C dX5_hasElement_0 rfl ?_
  refine v_iload_n C dX5_hasElement_1 rfl ?_
  refine v_callVi C (q := (RX5, TX5, 2)) (As := [_]) (rest := []) (c_X5_has hB hi) (cwV 1 hts gX5_hasElement_X5_has rfl rfl rfl (by decide +kernel) ⟨Nat.le_of_ble_eq_true rfl, Nat.le_of_ble_eq_true rfl⟩) (h1) rfl rfl rfl (Nat.le_of_ble_eq_true rfl) dX5_hasElement_2 (by dsimp only; omega) (by dsimp only; omega) (fun x_2 w hp => ?_)
  obtain ⟨hq2, rfl⟩ := hp
  refine v_wide (k' := 0) (z' := 0) (Nat.le_refl _) (Nat.le_refl _) ?_
  refine v_if_eq C (hq2.r32) (tgt := 25) dX5_hasElement_5 (by decide) (fun c_5 => ?_) (fun c_5 => ?_)
  · refine v_iconst C dX5_hasElement_25 ?_
    exact v_zret C rfl (by omega) dX5_hasElement_26 (by omega) (by omega) (hPO _ _ ⟨Or.inr ⟨rfl, fun g => hq2.z c_5 g.1⟩, rfl⟩)
  · refine v_iload_n C dX5_hasElement_8 rfl ?_
    refine v_if_lt C (⟨by omega, by omega⟩) (tgt := 25) dX5_hasElement_9 (by decide) (fun c_9 => ?_) (fun c_9 => ?_)
    · refine v_iconst C dX5_hasElement_25 ?_
      exact v_zret C rfl (by omega) dX5_hasElement_26 (by omega) (by omega) (hPO _ _ ⟨Or.inr ⟨rfl, by omega⟩, rfl⟩)
    · refine v_iload_n C dX5_hasElement_12 rfl ?_
      refine v_aload_n C dX5_hasElement_13 rfl ?_
      refine v_iload_n C dX5_hasElement_14 rfl ?_
      refine v_callVi C (q := (RX5, TX5, 2)) (As := [_]) (rest := [_]) (c_X5_widthOf hB hi) (cwV 1 hts gX5_hasElement_X5_widthOf rfl rfl rfl (by decide +kernel) ⟨Nat.le_of_ble_eq_true rfl, Nat.le_of_ble_eq_true rfl⟩) (h1) rfl rfl rfl (Nat.le_of_ble_eq_true rfl) dX5_hasElement_15 (by dsimp only; omega) (by dsimp only; omega) (fun x_15 w hp => ?_)
      obtain ⟨hv15, rfl⟩ := hp
      have hz := hq2.nz c_5
      rw [if_pos hz] at hv15
      have hA9 := hA i hz.1 hz.2
      refine v_wide (k' := 0) (z' := 0) (Nat.le_refl _) (Nat.le_refl _) ?_
      refine v_icmp_ge C (⟨by omega, by omega⟩) (⟨by omega, by omega⟩) (tgt := 25) dX5_hasElement_18 (by decide) (fun c_18 => ?_) (fun c_18 => ?_)
      · refine v_iconst C dX5_hasElement_25 ?_
        exact v_zret C rfl (by omega) dX5_hasElement_26 (by omega) (by omega) (hPO _ _ ⟨Or.inr ⟨rfl, by omega⟩, rfl⟩)
      · refine v_iconst C dX5_hasElement_21 ?_
        refine v_goto C (tgt := 26) dX5_hasElement_22 (by decide) ?_
        exact v_zret C rfl (by omega) dX5_hasElement_26 (by omega) (by omega) (hPO _ _ ⟨Or.inl ⟨rfl, hz, by omega, by omega⟩, rfl⟩)
set_option maxRecDepth 100000 in
set_option maxHeartbeats 400000 in
theorem c_X5_add {G : GG} {l : Launch} {w : Wd} {r : Nat} {n : Int} {A1 : Int → Int} {x9 : Int} (hB : WiresAt G w r n A1) (hn : n < 200) (hx : R32 x9) : MG G l yX5_add wsX5_add 1 40 (0) (0) [.ref r, .int (iI x9)] w (pI (fun (x : Int) (w' : Wd) => x = n ∧ WiresAt G w' r (n + 1) (upI A1 n x9) ∧ Fr (fun t => t = 2 ∨ t = 3) w w')) := by
  refine MG.of (cc := cX5_add) (nL := 2) (ret := (some .int)) (ll := [some (.ref r), some (.int (iI x9))]) (by decide) rfl (Nat.le_of_ble_eq_true rfl) rfl ?_
  intro p e s m args below meth c C
  have hts := C.2.2.2.2.1
  have g15 : GetF G s m args 15 8 1 := getF_of C 8 1 (T := TX5) (N := 2) (Cn := RX5) (ref := "TraceBook$Wires") rfl (by decide) (fun _ h => List.mem_cons_of_mem _ (List.mem_append_right _ (h))) (List.mem_of_getElem? (i := 1) rfl) (fun _ h => h)
  have g9 : GetF G s m args 9 8 0 := getF_of C 8 0 (T := TX5) (N := 2) (Cn := RX5) (ref := "TraceBook$Wires") rfl (by decide) (fun _ h => List.mem_cons_of_mem _ (List.mem_append_right _ (h))) (List.mem_of_getElem? (i := 2) rfl) (fun _ h => h)
  have p15 : PutF G s m args 15 8 1 (.int) := putF_of C 8 1 tyX5 tyX5_ok nmX5 (T := TX5) (N := 2) (Cn := RX5) (ref := "TraceBook$Wires") rfl (by decide) (fun _ h => List.mem_cons_of_mem _ (List.mem_append_right _ (h))) (List.mem_of_getElem? (i := 1) rfl) (fun _ h => h) rfl (by decide +kernel)
  refine poI (P := fun PO => V G p l e _ s m args below meth c (MQW G below args s _ _ (pI PO)) w 0 0 0 _ []) (fun PO hPO => ?_)
  obtain ⟨w0, hw0⟩ : ∃ z, z = w := ⟨_, rfl⟩
  rw [← hw0] at hPO
  have hF : Fr (fun t => t = 2 ∨ t = 3) w0 w := by rw [hw0]; exact Fr.rf
  obtain ⟨kq, f, h1, h2, hb, hv⟩ := hB
  refine v_aload_n C dX5_add_0 rfl ?_
  refine v_getf C g15 h1 rfl dX5_add_1 ?_
  refine v_aload_n C dX5_add_4 rfl ?_
  refine v_getf C g9 h1 rfl dX5_add_5 ?_
  refine v_alen C h2 (n := 200) (i := 1) rfl (Int.toNat_of_nonneg (a := 200) (by omega)) dX5_add_8 ?_
  refine v_icmp_lt C (⟨by omega, by omega⟩) (⟨by omega, by omega⟩) (tgt := 14) dX5_add_9 (by decide) (fun c_9 => ?_) (fun c_9 => ?_)
  · refine v_aload_n C dX5_add_14 rfl ?_
    refine v_getf C g9 h1 rfl dX5_add_15 ?_
    refine v_aload_n C dX5_add_18 rfl ?_
    refine v_getf C g15 h1 rfl dX5_add_19 ?_
    refine v_iload_n C dX5_add_22 rfl ?_
    refine v_iast C h2 (⟨by omega, by omega⟩) (by omega) (by omega) dX5_add_23 ?_
    refine v_upd h2 (fun w h2 hF9 hE9 => ?_)
    have h1 := hF9 _ _ _ (fun h9 => by have h8 : 2 = 3 := h9; omega) h1
    have hF := hF.tr (hF9.mono (fun t h9 => by have h8 : t = 3 := h9; show t = 2 ∨ t = 3; omega))
    refine v_aload_n C dX5_add_24 rfl ?_
    refine v_dup C rfl dX5_add_25 ?_
    refine v_getf C g15 h1 rfl dX5_add_26 ?_
    refine v_iconst C dX5_add_29 ?_
    refine v_iadd C dX5_add_30 ?_
    refine v_putf C p15 h1 rfl rfl (Nat.le_of_ble_eq_true rfl) dX5_add_31 ?_
    refine v_upd h1 (fun w h1 hF9 hE9 => ?_)
    have h2 := hF9 _ _ _ (fun h9 => by have h8 : 3 = 2 := h9; omega) h2
    have hF := hF.tr (hF9.mono (fun t h9 => by have h8 : t = 2 := h9; show t = 2 ∨ t = 3; omega))
    refine v_aload_n C dX5_add_34 rfl ?_
    refine v_getf C g15 h1 rfl dX5_add_35 ?_
    refine v_iconst C dX5_add_38 ?_
    refine v_isub C dX5_add_39 ?_
    exact v_iret C rfl dX5_add_40 (by omega) (by omega) (hPO _ _ ⟨by omega, ⟨kq, _, h1, h2, ⟨by omega, by omega⟩, fun j a q => by
        by_cases g : j = n
        · rw [g, upI_eq, upI_eq]
        · rw [upI_ne g, upI_ne g]; exact hv j a (by omega)⟩, hF⟩)
  · exact absurd c_9 (by omega)
set_option maxRecDepth 100000 in
set_option maxHeartbeats 400000 in
theorem c_X1_init {G : GG} {l : Launch} {w : Wd} {r : Nat} {t : Nat} {p q v b : Int} (h1 : w r = some (t, .inr (4, [.int (iI 0), .int (iI 0), .int (iI 0), .int (iI 0)]))) : MG G l yX1_init wsX1_init 1 40 (0) (0) [.ref r, .int (iI p), .int (iI q), .int (iI v), .int (iI b)] w (pV (fun (w' : Wd) => w' r = some (t, .inr (4, [.int (iI p), .int (iI q), .int (iI v), .int (iI b)])) ∧ ∀ a, a ≠ r → w' a = w a)) := by
  refine MG.of (cc := cX1_init) (nL := 5) (ret := none) (ll := [some (.ref r), some (.int (iI p)), some (.int (iI q)), some (.int (iI v)), some (.int (iI b))]) (by decide) rfl (Nat.le_of_ble_eq_true rfl) rfl ?_
  intro p e s m args below meth c C
  have hts := C.2.2.2.2.1
  have p7 : PutX G s m args meth 7 4 0 (.int) := putX_of C 4 0 tyX1 tyX1_ok nmX1 (T := TX1) (N := 4) (Cn := RX1) (ref := "TraceBook$Change") rfl (by decide) (fun _ h => List.mem_cons_of_mem _ (List.mem_append_right _ (h))) (List.mem_of_getElem? (i := 4) rfl) (fun _ h => h) rfl rfl rfl (by decide +kernel)
  have p13 : PutX G s m args meth 13 4 1 (.int) := putX_of C 4 1 tyX1 tyX1_ok nmX1 (T := TX1) (N := 4) (Cn := RX1) (ref := "TraceBook$Change") rfl (by decide) (fun _ h => List.mem_cons_of_mem _ (List.mem_append_right _ (h))) (List.mem_of_getElem? (i := 5) rfl) (fun _ h => h) rfl rfl rfl (by decide +kernel)
  have p16 : PutX G s m args meth 16 4 2 (.int) := putX_of C 4 2 tyX1 tyX1_ok nmX1 (T := TX1) (N := 4) (Cn := RX1) (ref := "TraceBook$Change") rfl (by decide) (fun _ h => List.mem_cons_of_mem _ (List.mem_append_right _ (h))) (List.mem_of_getElem? (i := 6) rfl) (fun _ h => h) rfl rfl rfl (by decide +kernel)
  have p19 : PutX G s m args meth 19 4 3 (.int) := putX_of C 4 3 tyX1 tyX1_ok nmX1 (T := TX1) (N := 4) (Cn := RX1) (ref := "TraceBook$Change") rfl (by decide) (fun _ h => List.mem_cons_of_mem _ (List.mem_append_right _ (h))) (List.mem_of_getElem? (i := 7) rfl) (fun _ h => h) rfl rfl rfl (by decide +kernel)
  refine poV (P := fun PO => V G p l e _ s m args below meth c (MQW G below args s _ _ (pV PO)) w 0 0 0 _ []) (fun PO hPO => ?_)
  obtain ⟨w0, hw0⟩ : ∃ z, z = w := ⟨_, rfl⟩
  rw [← hw0] at hPO
  have hE : ∀ a, a ≠ r → w a = w0 a := fun _ _ => by rw [hw0]
  refine v_aload_n C dX1_init_0 rfl ?_
  refine v_objInit C (List.mem_of_getElem? (i := 1) rfl) (List.mem_of_getElem? (i := 2) rfl) (List.mem_of_getElem? (i := 3) rfl) (Nat.le_of_ble_eq_true rfl) (Nat.le_of_ble_eq_true rfl) dX1_init_1 ?_
  refine v_aload_n C dX1_init_4 rfl ?_
  refine v_iload_n C dX1_init_5 rfl ?_
  refine v_putX C p7 h1 rfl rfl (Nat.le_of_ble_eq_true rfl) dX1_init_6 ?_
  refine v_upd h1 (fun w h1 hF9 hE9 => ?_)
  have hE : ∀ a, a ≠ r → w a = w0 a := fun a ha => (hE9 a ha).trans (hE a ha)
  refine v_aload_n C dX1_init_9 rfl ?_
  refine v_iload_n C dX1_init_10 rfl ?_
  refine v_putX C p13 h1 rfl rfl (Nat.le_of_ble_eq_true rfl) dX1_init_11 ?_
  refine v_upd h1 (fun w h1 hF9 hE9 => ?_)
  have hE : ∀ a, a ≠ r → w a = w0 a := fun a ha => (hE9 a ha).trans (hE a ha)
  refine v_aload_n C dX1_init_14 rfl ?_
  refine v_iload_n C dX1_init_15 rfl ?_
  refine v_putX C p16 h1 rfl rfl (Nat.le_of_ble_eq_true rfl) dX1_init_16 ?_
  refine v_upd h1 (fun w h1 hF9 hE9 => ?_)
  have hE : ∀ a, a ≠ r → w a = w0 a := fun a ha => (hE9 a ha).trans (hE a ha)
  refine v_aload_n C dX1_init_19 rfl ?_
  refine v_iload C dX1_init_20 rfl ?_
  refine v_putX C p19 h1 rfl rfl (Nat.le_of_ble_eq_true rfl) dX1_init_22 ?_
  refine v_upd h1 (fun w h1 hF9 hE9 => ?_)
  have hE : ∀ a, a ≠ r → w a = w0 a := fun a ha => (hE9 a ha).trans (hE a ha)
  exact v_vret C rfl dX1_init_25 (by omega) (by omega) (hPO _ ⟨h1, hE⟩)
set_option maxRecDepth 100000 in
set_option maxHeartbeats 400000 in
theorem c_X1_isOf {G : GG} {l : Launch} {w : Wd} {r : Nat} {t : Nat} {p v b : Int} {i j : Int} (h1 : w r = some (t, .inr (4, chV p v b))) (hp0 : 0 ≤ p ∧ p < 12800) (hi : 0 ≤ i ∧ i < 200) (hj : 0 ≤ j ∧ j < 64) : MG G l yX1_isOf wsX1_isOf 1 40 (0) (0) [.ref r, .int (iI i), .int (iI j)] w (pI (fun (x : Int) (w' : Wd) => BP x (p = 64 * i + j) ∧ w' = w)) := by
  refine MG.of (cc := cX1_isOf) (nL := 3) (ret := (some .boolean)) (ll := [some (.ref r), some (.int (iI i)), some (.int (iI j))]) (by decide) rfl (Nat.le_of_ble_eq_true rfl) rfl ?_
  intro p e s m args below meth c C
  have hts := C.2.2.2.2.1
  have g7 : GetF G s m args 7 4 0 := getF_of C 4 0 (T := TX1) (N := 4) (Cn := RX1) (ref := "TraceBook$Change") rfl (by decide) (fun _ h => List.mem_cons_of_mem _ (List.mem_append_right _ (h))) (List.mem_of_getElem? (i := 1) rfl) (fun _ h => h)
  have g13 : GetF G s m args 13 4 1 := getF_of C 4 1 (T := TX1) (N := 4) (Cn := RX1) (ref := "TraceBook$Change") rfl (by decide) (fun _ h => List.mem_cons_of_mem _ (List.mem_append_right _ (h))) (List.mem_of_getElem? (i := 2) rfl) (fun _ h => h)
  refine poI (P := fun PO => V G p l e _ s m args below meth c (MQW G below args s _ _ (pI PO)) w 0 0 0 _ []) (fun PO hPO => ?_)
  refine v_aload_n C dX1_isOf_0 rfl ?_
  refine v_getf C g7 h1 rfl dX1_isOf_1 ?_
  refine v_iload_n C dX1_isOf_4 rfl ?_
  refine v_icmp_ne C (⟨by omega, by omega⟩) (⟨by omega, by omega⟩) (tgt := 20) dX1_isOf_5 (by decide) (fun c_5 => ?_) (fun c_5 => ?_)
  · refine v_iconst C dX1_isOf_20 ?_
    exact v_zret C rfl (by omega) dX1_isOf_21 (by omega) (by omega) (hPO _ _ ⟨Or.inr ⟨rfl, by omega⟩, rfl⟩)
  · refine v_aload_n C dX1_isOf_8 rfl ?_
    refine v_getf C g13 h1 rfl dX1_isOf_9 ?_
    refine v_iload_n C dX1_isOf_12 rfl ?_
    refine v_icmp_ne C (⟨by omega, by omega⟩) (⟨by omega, by omega⟩) (tgt := 20) dX1_isOf_13 (by decide) (fun c_13 => ?_) (fun c_13 => ?_)
    · refine v_iconst C dX1_isOf_20 ?_
      exact v_zret C rfl (by omega) dX1_isOf_21 (by omega) (by omega) (hPO _ _ ⟨Or.inr ⟨rfl, by omega⟩, rfl⟩)
    · refine v_iconst C dX1_isOf_16 ?_
      refine v_goto C (tgt := 21) dX1_isOf_17 (by decide) ?_
      exact v_zret C rfl (by omega) dX1_isOf_21 (by omega) (by omega) (hPO _ _ ⟨Or.inl ⟨rfl, by omega⟩, rfl⟩)
set_option maxRecDepth 100000 in
set_option maxHeartbeats 400000 in
theorem c_X1_standsBefore {G : GG} {l : Launch} {w : Wd} {r : Nat} {t : Nat} {p v b : Int} {i j : Int} (h1 : w r = some (t, .inr (4, chV p v b))) (hp0 : 0 ≤ p ∧ p < 12800) (hi : 0 ≤ i ∧ i < 200) (hj : 0 ≤ j ∧ j < 64) : MG G l yX1_standsBefore wsX1_standsBefore 1 40 (0) (0) [.ref r, .int (iI i), .int (iI j)] w (pI (fun (x : Int) (w' : Wd) => BP x (p < 64 * i + j) ∧ w' = w)) := by
  refine MG.of (cc := cX1_standsBefore) (nL := 3) (ret := (some .boolean)) (ll := [some (.ref r), some (.int (iI i)), some (.int (iI j))]) (by decide) rfl (Nat.le_of_ble_eq_true rfl) rfl ?_
  intro p e s m args below meth c C
  have hts := C.2.2.2.2.1
  have g7 : GetF G s m args 7 4 0 := getF_of C 4 0 (T := TX1) (N := 4) (Cn := RX1) (ref := "TraceBook$Change") rfl (by decide) (fun _ h => List.mem_cons_of_mem _ (List.mem_append_right _ (h))) (List.mem_of_getElem? (i := 1) rfl) (fun _ h => h)
  have g13 : GetF G s m args 13 4 1 := getF_of C 4 1 (T := TX1) (N := 4) (Cn := RX1) (ref := "TraceBook$Change") rfl (by decide) (fun _ h => List.mem_cons_of_mem _ (List.mem_append_right _ (h))) (List.mem_of_getElem? (i := 2) rfl) (fun _ h => h)
  refine poI (P := fun PO => V G p l e _ s m args below meth c (MQW G below args s _ _ (pI PO)) w 0 0 0 _ []) (fun PO hPO => ?_)
  refine v_aload_n C dX1_standsBefore_0 rfl ?_
  refine v_getf C g7 h1 rfl dX1_standsBefore_1 ?_
  refine v_iload_n C dX1_standsBefore_4 rfl ?_
  refine v_icmp_lt C (⟨by omega, by omega⟩) (⟨by omega, by omega⟩) (tgt := 24) dX1_standsBefore_5 (by decide) (fun c_5 => ?_) (fun c_5 => ?_)
  · refine v_iconst C dX1_standsBefore_24 ?_
    refine v_goto C (tgt := 29) dX1_standsBefore_25 (by decide) ?_
    exact v_zret C rfl (by omega) dX1_standsBefore_29 (by omega) (by omega) (hPO _ _ ⟨Or.inl ⟨rfl, by omega⟩, rfl⟩)
  · refine v_aload_n C dX1_standsBefore_8 rfl ?_
    refine v_getf C g7 h1 rfl dX1_standsBefore_9 ?_
    refine v_iload_n C dX1_standsBefore_12 rfl ?_
    refine v_icmp_ne C (⟨by omega, by omega⟩) (⟨by omega, by omega⟩) (tgt := 28) dX1_standsBefore_13 (by decide) (fun c_13 => ?_) (fun c_13 => ?_)
    · refine v_iconst C dX1_standsBefore_28 ?_
      exact v_zret C rfl (by omega) dX1_standsBefore_29 (by omega) (by omega) (hPO _ _ ⟨Or.inr ⟨rfl, by omega⟩, rfl⟩)
    · refine v_aload_n C dX1_standsBefore_16 rfl ?_
      refine v_getf C g13 h1 rfl dX1_standsBefore_17 ?_
      refine v_iload_n C dX1_standsBefore_20 rfl ?_
      refine v_icmp_ge C (⟨by omega, by omega⟩) (⟨by omega, by omega⟩) (tgt := 28) dX1_standsBefore_21 (by decide) (fun c_21 => ?_) (fun c_21 => ?_)
      · refine v_iconst C dX1_standsBefore_28 ?_
        exact v_zret C rfl (by omega) dX1_standsBefore_29 (by omega) (by omega) (hPO _ _ ⟨Or.inr ⟨rfl, by omega⟩, rfl⟩)
      · refine v_iconst C dX1_standsBefore_24 ?_
        refine v_goto C (tgt := 29) dX1_standsBefore_25 (by decide) ?_
        exact v_zret C rfl (by omega) dX1_standsBefore_29 (by omega) (by omega) (hPO _ _ ⟨Or.inl ⟨rfl, by omega⟩, rfl⟩)
