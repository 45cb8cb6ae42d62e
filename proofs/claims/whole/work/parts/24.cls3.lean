theorem bsl_4_3 {x0 x1 x2 x3 : Option Value} {v : Value} : stL [x0, x1, x2, x3] 3 v = [x0, x1, x2, some v] := rfl
set_option maxRecDepth 100000 in
set_option maxHeartbeats 400000 in
theorem c_Jxa1e45_init_da8c8 {G : GG} {l : Launch} {w : Wd} {r : Nat} {T : Nat} {fs : List Value} (h1 : w r = some (T, .inr (2, fs))) : MG G l yJxa1e45_init_da8c8 wsJxa1e45_init_da8c8 1 40 (0) (0) [.ref r] w (pV (fun (w' : Wd) => w' = w)) := by
  refine MG.of (cc := cJxa1e45_init_da8c8) (nL := 1) (ret := none) (ll := [some (.ref r)]) (by decide) rfl (Nat.le_of_ble_eq_true rfl) rfl ?_
  intro p e s m args below meth c C
  have hts := C.2.2.2.2.1
  refine poV (P := fun PO => V G p l e _ s m args below meth c (MQW G below args s _ _ (pV PO)) w 0 0 0 _ []) (fun PO hPO => ?_)
  refine v_aload_n C dJxa1e45_init_da8c8_0 rfl ?_
  refine v_objInit C (List.mem_of_getElem? (i := 1) rfl) (List.mem_of_getElem? (i := 2) rfl) (List.mem_of_getElem? (i := 3) rfl) (Nat.le_of_ble_eq_true rfl) (Nat.le_of_ble_eq_true rfl) dJxa1e45_init_da8c8_1 ?_
  exact v_vret C rfl dJxa1e45_init_da8c8_4 (by omega) (by omega) (hPO _ rfl)
set_option maxRecDepth 100000 in
set_option maxHeartbeats 400000 in
theorem c_Jxc12de_init_da8c8 {G : GG} {l : Launch} {w : Wd} {r : Nat} {T : Nat} (h1 : w r = some (T, .inr (2, [.int (iI 0), .null, .int (iI 0)]))) : MG G l yJxc12de_init_da8c8 wsJxc12de_init_da8c8 2 80 (0) (0) [.ref r] w (pV (fun (w' : Wd) => w' r = some (T, .inr (2, [.int (iI 0), .null, .int (iI 0)])) ∧ Fr (fun t => t = T) w w')) := by
  refine MG.of (cc := cJxc12de_init_da8c8) (nL := 1) (ret := none) (ll := [some (.ref r)]) (by decide) rfl (Nat.le_of_ble_eq_true rfl) rfl ?_
  intro p e s m args below meth c C
  have hts := C.2.2.2.2.1
  have p7 : PutF G s m args 7 2 0 (.int) := putF_of C 2 0 tyJx4a65c tyJx4a65c_ok nmJx4a65c (T := TJx4a65c) (N := 3) (Cn := RJx4a65c) (ref := "java/util/AbstractList") rfl (by decide) (fun _ h => List.mem_cons_of_mem _ (List.mem_append_right _ (h))) (List.mem_of_getElem? (i := 1) rfl) (fun _ h => h) rfl (by decide +kernel)
  refine poV (P := fun PO => V G p l e _ s m args below meth c (MQW G below args s _ _ (pV PO)) w 0 0 0 _ []) (fun PO hPO => ?_)
  obtain ⟨w0, hw0⟩ : ∃ z, z = w := ⟨_, rfl⟩
  rw [← hw0] at hPO
  have hF : Fr (fun t => t = T) w0 w := by rw [hw0]; exact Fr.rf
  refine v_aload_n C dJxc12de_init_da8c8_0 rfl ?_
  refine v_callI C (ret2 := none) (b := _) (t := 0) (ci := 0) (fs := []) (q := (RX7, TX7, 33)) (As := []) (rest := []) (c_Jxa1e45_init_da8c8 h1) (cwI 0 hts gJxc12de_init_da8c8_Jxa1e45_init_da8c8 rfl rfl rfl (hts _ (List.mem_of_getElem? (i := 4) rfl)) (hts _ (List.mem_of_getElem? (i := 2) rfl)) (hts _ (List.mem_of_getElem? (i := 3) rfl)) rfl (by decide +kernel) ⟨Nat.le_of_ble_eq_true rfl, Nat.le_of_ble_eq_true rfl⟩) rfl rfl (Nat.le_of_ble_eq_true rfl) dJxc12de_init_da8c8_1 (by dsimp only; omega) (by dsimp only; omega) (fun w hp => ?_)
  subst hp
  refine v_wide (k' := 0) (z' := 0) (Nat.le_refl _) (Nat.le_refl _) ?_
  refine v_aload_n C dJxc12de_init_da8c8_4 rfl ?_
  refine v_iconst C dJxc12de_init_da8c8_5 ?_
  refine v_putf C p7 h1 rfl rfl (Nat.le_of_ble_eq_true rfl) dJxc12de_init_da8c8_6 ?_
  refine v_upd h1 (fun w h1 hF9 hE9 => ?_)
  have hF := hF.tr (hF9.mono (fun t h9 => by have h8 : t = T := h9; show t = T; omega))
  exact v_vret C rfl dJxc12de_init_da8c8_9 (by omega) (by omega) (hPO _ ⟨h1, hF⟩)
set_option maxRecDepth 100000 in
set_option maxHeartbeats 400000 in
theorem c_Jx4a65c_init_da8c8 {G : GG} {l : Launch} {w : Wd} {r : Nat} {T : Nat} (h1 : w r = some (T, .inr (2, [.int (iI 0), .null, .int (iI 0)]))) : MG G l yJx4a65c_init_da8c8 wsJx4a65c_init_da8c8 3 120 (0) (0) [.ref r] w (pV (fun (w' : Wd) => ListAt G w' T r 0 (fun _ => 0) ∧ Fr (fun t => t = T) w w')) := by
  refine MG.of (cc := cJx4a65c_init_da8c8) (nL := 1) (ret := none) (ll := [some (.ref r)]) (by decide) rfl (Nat.le_of_ble_eq_true rfl) rfl ?_
  intro p e s m args below meth c C
  have hts := C.2.2.2.2.1
  have p9 : PutF G s m args 9 2 1 (.array (.object "java/lang/Object")) := putF_of C 2 1 tyJx4a65c tyJx4a65c_ok nmJx4a65c (T := TJx4a65c) (N := 3) (Cn := RJx4a65c) (ref := "java/util/ArrayList") rfl (by decide) (fun _ h => List.mem_cons_of_mem _ (List.mem_append_right _ (h))) (List.mem_of_getElem? (i := 2) rfl) (fun _ h => h) rfl (by decide +kernel)
  refine poV (P := fun PO => V G p l e _ s m args below meth c (MQW G below args s _ _ (pV PO)) w 0 0 0 _ []) (fun PO hPO => ?_)
  obtain ⟨w0, hw0⟩ : ∃ z, z = w := ⟨_, rfl⟩
  rw [← hw0] at hPO
  have hF : Fr (fun t => t = T) w0 w := by rw [hw0]; exact Fr.rf
  refine v_aload_n C dJx4a65c_init_da8c8_0 rfl ?_
  refine v_callI C (ret2 := none) (b := _) (t := 0) (ci := 0) (fs := []) (q := (RX7, TX7, 33)) (As := []) (rest := []) (c_Jxc12de_init_da8c8 h1) (cwI 0 hts gJx4a65c_init_da8c8_Jxc12de_init_da8c8 rfl rfl rfl (hts _ (List.mem_of_getElem? (i := 5) rfl)) (hts _ (List.mem_of_getElem? (i := 3) rfl)) (hts _ (List.mem_of_getElem? (i := 4) rfl)) rfl (by decide +kernel) ⟨Nat.le_of_ble_eq_true rfl, Nat.le_of_ble_eq_true rfl⟩) rfl rfl (Nat.le_of_ble_eq_true rfl) dJx4a65c_init_da8c8_1 (by dsimp only; omega) (by dsimp only; omega) (fun w hp => ?_)
  obtain ⟨h1, hF9⟩ := hp
  have hF := hF.tr (hF9.mono (fun t h9 => by have h8 : t = T := h9; show t = T; omega))
  refine v_wide (k' := 0) (z' := 0) (Nat.le_refl _) (Nat.le_refl _) ?_
  refine v_aload_n C dJx4a65c_init_da8c8_4 rfl ?_
  refine v_gets C (List.mem_of_getElem? (i := 1) rfl) dJx4a65c_init_da8c8_5 ?_
  refine v_putf C p9 h1 rfl rfl (Nat.le_of_ble_eq_true rfl) dJx4a65c_init_da8c8_8 ?_
  refine v_upd h1 (fun w h1 hF9 hE9 => ?_)
  have hF := hF.tr (hF9.mono (fun t h9 => by have h8 : t = T := h9; show t = T; omega))
  exact v_vret C rfl dJx4a65c_init_da8c8_11 (by omega) (by omega) (hPO _ ⟨⟨0, gE G, 0, fun _ => none, h1, Or.inl ⟨rfl, rfl⟩, ⟨by omega, by omega, by omega⟩, fun j a b => by omega⟩, hF⟩)
set_option maxRecDepth 100000 in
set_option maxHeartbeats 400000 in
theorem c_Jx4a65c_size_8abf5 {G : GG} {l : Launch} {w : Wd} {r : Nat} {T : Nat} {n : Int} {L : Int → Nat} (hB : ListAt G w T r n L) : MG G l yJx4a65c_size_8abf5 wsJx4a65c_size_8abf5 1 40 (0) (0) [.ref r] w (pI (fun (x : Int) (w' : Wd) => x = n ∧ w' = w)) := by
  refine MG.of (cc := cJx4a65c_size_8abf5) (nL := 1) (ret := (some .int)) (ll := [some (.ref r)]) (by decide) rfl (Nat.le_of_ble_eq_true rfl) rfl ?_
  intro p e s m args below meth c C
  have hts := C.2.2.2.2.1
  have g48 : GetF G s m args 48 2 2 := getF_of C 2 2 (T := TJx4a65c) (N := 3) (Cn := RJx4a65c) (ref := "java/util/ArrayList") rfl (by decide) (fun _ h => List.mem_cons_of_mem _ (List.mem_append_right _ (h))) (List.mem_of_getElem? (i := 1) rfl) (fun _ h => h)
  refine poI (P := fun PO => V G p l e _ s m args below meth c (MQW G below args s _ _ (pI PO)) w 0 0 0 _ []) (fun PO hPO => ?_)
  obtain ⟨mc, kq, cap, g, h1, hA, hb, hg⟩ := hB
  refine v_aload_n C dJx4a65c_size_8abf5_0 rfl ?_
  refine v_getf C g48 h1 rfl dJx4a65c_size_8abf5_1 ?_
  exact v_iret C rfl dJx4a65c_size_8abf5_4 (by omega) (by omega) (hPO _ _ ⟨rfl, rfl⟩)
set_option maxRecDepth 100000 in
set_option maxHeartbeats 400000 in
theorem c_Jx4a65c_isEmpty_aae02 {G : GG} {l : Launch} {w : Wd} {r : Nat} {T : Nat} {n : Int} {L : Int → Nat} (hB : ListAt G w T r n L) : MG G l yJx4a65c_isEmpty_aae02 wsJx4a65c_isEmpty_aae02 1 40 (0) (0) [.ref r] w (pI (fun (x : Int) (w' : Wd) => BP x (n = 0) ∧ w' = w)) := by
  refine MG.of (cc := cJx4a65c_isEmpty_aae02) (nL := 1) (ret := (some .boolean)) (ll := [some (.ref r)]) (by decide) rfl (Nat.le_of_ble_eq_true rfl) rfl ?_
  intro p e s m args below meth c C
  have hts := C.2.2.2.2.1
  have g48 : GetF G s m args 48 2 2 := getF_of C 2 2 (T := TJx4a65c) (N := 3) (Cn := RJx4a65c) (ref := "java/util/ArrayList") rfl (by decide) (fun _ h => List.mem_cons_of_mem _ (List.mem_append_right _ (h))) (List.mem_of_getElem? (i := 1) rfl) (fun _ h => h)
  refine poI (P := fun PO => V G p l e _ s m args below meth c (MQW G below args s _ _ (pI PO)) w 0 0 0 _ []) (fun PO hPO => ?_)
  obtain ⟨mc, kq, cap, g, h1, hA, hb, hg⟩ := hB
  refine v_aload_n C dJx4a65c_isEmpty_aae02_0 rfl ?_
  refine v_getf C g48 h1 rfl dJx4a65c_isEmpty_aae02_1 ?_
  refine v_if_ne C (⟨by omega, by omega⟩) (tgt := 11) dJx4a65c_isEmpty_aae02_4 (by decide) (fun c_4 => ?_) (fun c_4 => ?_)
  · refine v_iconst C dJx4a65c_isEmpty_aae02_11 ?_
    exact v_zret C rfl (by omega) dJx4a65c_isEmpty_aae02_12 (by omega) (by omega) (hPO _ _ ⟨Or.inr ⟨rfl, c_4⟩, rfl⟩)
  · refine v_iconst C dJx4a65c_isEmpty_aae02_7 ?_
    refine v_goto C (tgt := 12) dJx4a65c_isEmpty_aae02_8 (by decide) ?_
    exact v_zret C rfl (by omega) dJx4a65c_isEmpty_aae02_12 (by omega) (by omega) (hPO _ _ ⟨Or.inl ⟨rfl, c_4⟩, rfl⟩)
set_option maxRecDepth 100000 in
set_option maxHeartbeats 400000 in
theorem c_J3_checkIndex_8e157 {G : GG} {l : Launch} {w : Wd} {i n : Int} (hi : 0 ≤ i ∧ i < n) (hn : R32 n) : MG G l yJ3_checkIndex_8e157 wsJ3_checkIndex_8e157 1 40 (0) (0) [.int (iI i), .int (iI n), .null] w (pI (fun (x : Int) (w' : Wd) => x = i ∧ w' = w)) := by
  refine MG.of (cc := cJ3_checkIndex_8e157) (nL := 3) (ret := (some .int)) (ll := [some (.int (iI i)), some (.int (iI n)), some (.null)]) (by decide) rfl (Nat.le_of_ble_eq_true rfl) rfl ?_
  intro p e s m args below meth c C
  have hts := C.2.2.2.2.1
  refine poI (P := fun PO => V G p l e _ s m args below meth c (MQW G below args s _ _ (pI PO)) w 0 0 0 _ []) (fun PO hPO => ?_)
  refine v_iload_n C dJ3_checkIndex_8e157_0 rfl ?_
  refine v_if_lt C (⟨by omega, by omega⟩) (tgt := 9) dJ3_checkIndex_8e157_1 (by decide) (fun c_1 => ?_) (fun c_1 => ?_)
  · exact absurd c_1 (by omega)
  · refine v_iload_n C dJ3_checkIndex_8e157_4 rfl ?_
    refine v_iload_n C dJ3_checkIndex_8e157_5 rfl ?_
    refine v_icmp_lt C (⟨by omega, by omega⟩) (⟨by omega, by omega⟩) (tgt := 16) dJ3_checkIndex_8e157_6 (by decide) (fun c_6 => ?_) (fun c_6 => ?_)
    · refine v_iload_n C dJ3_checkIndex_8e157_16 rfl ?_
      exact v_iret C rfl dJ3_checkIndex_8e157_17 (by omega) (by omega) (hPO _ _ ⟨rfl, rfl⟩)
    · exact absurd c_6 (by omega)
set_option maxRecDepth 100000 in
set_option maxHeartbeats 400000 in
theorem c_J15_checkIndex_7cf53 {G : GG} {l : Launch} {w : Wd} {i n : Int} (hi : 0 ≤ i ∧ i < n) (hn : R32 n) : MG G l yJ15_checkIndex_7cf53 wsJ15_checkIndex_7cf53 2 80 (0) (0) [.int (iI i), .int (iI n)] w (pI (fun (x : Int) (w' : Wd) => x = i ∧ w' = w)) := by
  refine MG.of (cc := cJ15_checkIndex_7cf53) (nL := 2) (ret := (some .int)) (ll := [some (.int (iI i)), some (.int (iI n))]) (by decide) rfl (Nat.le_of_ble_eq_true rfl) rfl ?_
  intro p e s m args below meth c C
  have hts := C.2.2.2.2.1
  refine poI (P := fun PO => V G p l e _ s m args below meth c (MQW G below args s _ _ (pI PO)) w 0 0 0 _ []) (fun PO hPO => ?_)
  refine v_iload_n C dJ15_checkIndex_7cf53_0 rfl ?_
  refine v_iload_n C dJ15_checkIndex_7cf53_1 rfl ?_
  refine v_null C dJ15_checkIndex_7cf53_2 ?_
  refine v_callSi C (b := 0) (t := 0) (ci := 0) (fs := []) (q := (RX7, TX7, 33)) (As := [_, _, _]) (rest := []) (c_J3_checkIndex_8e157 hi hn) (va_cwS 3 hts gJ15_checkIndex_7cf53_J3_checkIndex_8e157 rfl rfl rfl (by decide +kernel) ⟨Nat.le_of_ble_eq_true rfl, Nat.le_of_ble_eq_true rfl⟩) rfl rfl (Nat.le_of_ble_eq_true rfl) dJ15_checkIndex_7cf53_3 (by dsimp only; omega) (by dsimp only; omega) (fun x_3 w hp => ?_)
  obtain ⟨hx_3, rfl⟩ := hp
  refine v_wide (k' := 0) (z' := 0) (Nat.le_refl _) (Nat.le_refl _) ?_
  exact v_iret C rfl dJ15_checkIndex_7cf53_6 (by omega) (by omega) (hPO _ _ ⟨hx_3, rfl⟩)
set_option maxRecDepth 100000 in
set_option maxHeartbeats 400000 in
theorem c_Jx4a65c_elementData_915e3 {G : GG} {l : Launch} {w : Wd} {r : Nat} {T : Nat} {n : Int} {L : Int → Nat} {i : Int} (hB : ListAt G w T r n L) (hi : 0 ≤ i ∧ i < n) : MG G l yJx4a65c_elementData_915e3 wsJx4a65c_elementData_915e3 1 40 (0) (0) [.ref r, .int (iI i)] w (pR (fun (x : Option Nat) (w' : Wd) => x = some (L i) ∧ w' = w)) := by
  refine MG.of (cc := cJx4a65c_elementData_915e3) (nL := 2) (ret := (some (.object "java/lang/Object"))) (ll := [some (.ref r), some (.int (iI i))]) (by decide) rfl (Nat.le_of_ble_eq_true rfl) rfl ?_
  intro p e s m args below meth c C
  have hts := C.2.2.2.2.1
  have g9 : GetF G s m args 9 2 1 := getF_of C 2 1 (T := TJx4a65c) (N := 3) (Cn := RJx4a65c) (ref := "java/util/ArrayList") rfl (by decide) (fun _ h => List.mem_cons_of_mem _ (List.mem_append_right _ (h))) (List.mem_of_getElem? (i := 1) rfl) (fun _ h => h)
  refine poR (P := fun PO => V G p l e _ s m args below meth c (MQW G below args s _ _ (pR PO)) w 0 0 0 _ []) (fun PO hPO => ?_)
  obtain ⟨mc, kq, cap, g, h1, hA, hb, hg⟩ := hB
  have h2 := hA.arr (by omega)
  refine v_aload_n C dJx4a65c_elementData_915e3_0 rfl ?_
  refine v_getf C g9 h1 rfl dJx4a65c_elementData_915e3_1 ?_
  refine v_iload_n C dJx4a65c_elementData_915e3_4 rfl ?_
  refine v_aald C h2 (⟨by omega, by omega⟩) (by omega) (by omega) dJx4a65c_elementData_915e3_5 ?_
  rw [hg i hi.1 hi.2]
  exact v_aret C rfl (Or.inl ⟨_, rfl⟩) dJx4a65c_elementData_915e3_6 (by omega) (by omega) (hPO _ _ ⟨rfl, rfl⟩)
set_option maxRecDepth 100000 in
set_option maxHeartbeats 400000 in
theorem c_Jx4a65c_get_915e3 {G : GG} {l : Launch} {w : Wd} {r : Nat} {T : Nat} {n : Int} {L : Int → Nat} {i : Int} (hB : ListAt G w T r n L) (hi : 0 ≤ i ∧ i < n) : MG G l yJx4a65c_get_915e3 wsJx4a65c_get_915e3 3 120 (0) (0) [.ref r, .int (iI i)] w (pR (fun (x : Option Nat) (w' : Wd) => x = some (L i) ∧ w' = w)) := by
  refine MG.of (cc := cJx4a65c_get_915e3) (nL := 2) (ret := (some (.object "java/lang/Object"))) (ll := [some (.ref r), some (.int (iI i))]) (by decide) rfl (Nat.le_of_ble_eq_true rfl) rfl ?_
  intro p e s m args below meth c C
  have hts := C.2.2.2.2.1
  have g48 : GetF G s m args 48 2 2 := getF_of C 2 2 (T := TJx4a65c) (N := 3) (Cn := RJx4a65c) (ref := "java/util/ArrayList") rfl (by decide) (fun _ h => List.mem_cons_of_mem _ (List.mem_append_right _ (h))) (List.mem_of_getElem? (i := 1) rfl) (fun _ h => h)
  refine poR (P := fun PO => V G p l e _ s m args below meth c (MQW G below args s _ _ (pR PO)) w 0 0 0 _ []) (fun PO hPO => ?_)
  obtain ⟨mc, kq, cap, g, h1, hA, hb, hg⟩ := id hB
  refine v_iload_n C dJx4a65c_get_915e3_0 rfl ?_
  refine v_aload_n C dJx4a65c_get_915e3_1 rfl ?_
  refine v_getf C g48 h1 rfl dJx4a65c_get_915e3_2 ?_
  refine v_callSi C (b := 0) (t := 0) (ci := 0) (fs := []) (q := (RX7, TX7, 33)) (As := [_, _]) (rest := []) (c_J15_checkIndex_7cf53 hi ⟨by omega, by omega⟩) (va_cwS 2 hts gJx4a65c_get_915e3_J15_checkIndex_7cf53 rfl rfl rfl (by decide +kernel) ⟨Nat.le_of_ble_eq_true rfl, Nat.le_of_ble_eq_true rfl⟩) rfl rfl (Nat.le_of_ble_eq_true rfl) dJx4a65c_get_915e3_5 (by dsimp only; omega) (by dsimp only; omega) (fun x_5 w hp => ?_)
  obtain ⟨hx_5, rfl⟩ := hp
  refine v_wide (k' := 0) (z' := 0) (Nat.le_refl _) (Nat.le_refl _) ?_
  refine v_pop C rfl dJx4a65c_get_915e3_8 ?_
  refine v_aload_n C dJx4a65c_get_915e3_9 rfl ?_
  refine v_iload_n C dJx4a65c_get_915e3_10 rfl ?_
  refine v_callVr C (q := (RJx4a65c, TJx4a65c, 3)) (As := [_]) (rest := []) (c_Jx4a65c_elementData_915e3 hB hi) (cwV 1 hts gJx4a65c_get_915e3_Jx4a65c_elementData_915e3 rfl rfl rfl (by decide +kernel) ⟨Nat.le_of_ble_eq_true rfl, Nat.le_of_ble_eq_true rfl⟩) (h1) rfl rfl rfl (Nat.le_of_ble_eq_true rfl) dJx4a65c_get_915e3_11 (by dsimp only; omega) (by dsimp only; omega) (fun x_11 w hp => ?_)
  obtain ⟨rfl, rfl⟩ := hp
  refine v_wide (k' := 0) (z' := 0) (Nat.le_refl _) (Nat.le_refl _) ?_
  exact v_aret C rfl (Or.inl ⟨_, rfl⟩) dJx4a65c_get_915e3_14 (by omega) (by omega) (hPO _ _ ⟨rfl, rfl⟩)
set_option maxRecDepth 100000 in
set_option maxHeartbeats 400000 in
theorem c_Jx4a65c_set_bcc79 {G : GG} {l : Launch} {w : Wd} {r : Nat} {T : Nat} {n : Int} {L : Int → Nat} {i : Int} {ci tv v : Nat} {vs : List Value} {q0 : vw_C} (hB : ListAt G w T r n L) (hi : 0 ≤ i ∧ i < n) (hv : w v = some (tv, .inr (ci, vs))) (hq : vwCl[ci]? = some q0) (hca : (q0.1, "java/lang/Object") ∈ kkC) (htv : 0 < T ∧ tv ≠ T ∧ tv ≠ T + 1 ∧ tv ≠ 0) : MG G l yJx4a65c_set_bcc79 wsJx4a65c_set_bcc79 3 120 (0) (0) [.ref r, .int (iI i), .ref v] w (pR (fun (x : Option Nat) (w' : Wd) => x = some (L i) ∧ ListAt G w' T r n (upA L i v) ∧ Fr (fun t => t = T ∨ t = T + 1 ∨ t = 0) w w')) := by
  refine MG.of (cc := cJx4a65c_set_bcc79) (nL := 4) (ret := (some (.object "java/lang/Object"))) (ll := [some (.ref r), some (.int (iI i)), some (.ref v), none]) (by decide) rfl (Nat.le_of_ble_eq_true rfl) rfl ?_
  intro p e s m args below meth c C
  have hts := C.2.2.2.2.1
  have g48 : GetF G s m args 48 2 2 := getF_of C 2 2 (T := TJx4a65c) (N := 3) (Cn := RJx4a65c) (ref := "java/util/ArrayList") rfl (by decide) (fun _ h => List.mem_cons_of_mem _ (List.mem_append_right _ (h))) (List.mem_of_getElem? (i := 1) rfl) (fun _ h => h)
  have g9 : GetF G s m args 9 2 1 := getF_of C 2 1 (T := TJx4a65c) (N := 3) (Cn := RJx4a65c) (ref := "java/util/ArrayList") rfl (by decide) (fun _ h => List.mem_cons_of_mem _ (List.mem_append_right _ (h))) (List.mem_of_getElem? (i := 2) rfl) (fun _ h => h)
  refine poR (P := fun PO => V G p l e _ s m args below meth c (MQW G below args s _ _ (pR PO)) w 0 0 0 _ []) (fun PO hPO => ?_)
  obtain ⟨w0, hw0⟩ : ∃ z, z = w := ⟨_, rfl⟩
  rw [← hw0] at hPO
  have hF : Fr (fun t => t = T ∨ t = T + 1 ∨ t = 0) w0 w := by rw [hw0]; exact Fr.rf
  obtain ⟨mc, kq, cap, g, h1, hA, hb, hg⟩ := id hB
  have h2 := hA.arr (by omega)
  refine v_iload_n C dJx4a65c_set_bcc79_0 rfl ?_
  refine v_aload_n C dJx4a65c_set_bcc79_1 rfl ?_
  refine v_getf C g48 h1 rfl dJx4a65c_set_bcc79_2 ?_
  refine v_callSi C (b := 0) (t := 0) (ci := 0) (fs := []) (q := (RX7, TX7, 33)) (As := [_, _]) (rest := []) (c_J15_checkIndex_7cf53 hi ⟨by omega, by omega⟩) (va_cwS 2 hts gJx4a65c_set_bcc79_J15_checkIndex_7cf53 rfl rfl rfl (by decide +kernel) ⟨Nat.le_of_ble_eq_true rfl, Nat.le_of_ble_eq_true rfl⟩) rfl rfl (Nat.le_of_ble_eq_true rfl) dJx4a65c_set_bcc79_5 (by dsimp only; omega) (by dsimp only; omega) (fun x_5 w hp => ?_)
  obtain ⟨hx_5, rfl⟩ := hp
  refine v_wide (k' := 0) (z' := 0) (Nat.le_refl _) (Nat.le_refl _) ?_
  refine v_pop C rfl dJx4a65c_set_bcc79_8 ?_
  refine v_aload_n C dJx4a65c_set_bcc79_9 rfl ?_
  refine v_iload_n C dJx4a65c_set_bcc79_10 rfl ?_
  refine v_callVr C (q := (RJx4a65c, TJx4a65c, 3)) (As := [_]) (rest := []) (c_Jx4a65c_elementData_915e3 hB hi) (cwV 1 hts gJx4a65c_set_bcc79_Jx4a65c_elementData_915e3 rfl rfl rfl (by decide +kernel) ⟨Nat.le_of_ble_eq_true rfl, Nat.le_of_ble_eq_true rfl⟩) (h1) rfl rfl rfl (Nat.le_of_ble_eq_true rfl) dJx4a65c_set_bcc79_11 (by dsimp only; omega) (by dsimp only; omega) (fun x_11 w hp => ?_)
  obtain ⟨rfl, rfl⟩ := hp
  refine v_wide (k' := 0) (z' := 0) (Nat.le_refl _) (Nat.le_refl _) ?_
  refine v_astore_n C dJx4a65c_set_bcc79_14 bsl_4_3 (by decide) rfl ?_
  refine v_aload_n C dJx4a65c_set_bcc79_15 rfl ?_
  refine v_getf C g9 h1 rfl dJx4a65c_set_bcc79_16 ?_
  refine v_iload_n C dJx4a65c_set_bcc79_19 rfl ?_
  refine v_aload_n C dJx4a65c_set_bcc79_20 rfl ?_
  refine v_aast C h2 (hv) hq hca (⟨by omega, by omega⟩) (by omega) (by omega) dJx4a65c_set_bcc79_21 ?_
  refine v_upd h2 (fun w h2 hF9 hE9 => ?_)
  have h1 := hF9 _ _ _ (fun h9 => by have h8 : T = T + 1 := h9; omega) h1
  have hv := hF9 _ _ _ (fun h9 => by have h8 : tv = T + 1 := h9; omega) hv
  have hF := hF.tr (hF9.mono (fun t h9 => by have h8 : t = T + 1 := h9; show t = T ∨ t = T + 1 ∨ t = 0; omega))
  refine v_aload_n C dJx4a65c_set_bcc79_22 rfl ?_
  exact v_aret C rfl (Or.inl ⟨_, rfl⟩) dJx4a65c_set_bcc79_23 (by omega) (by omega) (hPO _ _ ⟨rfl, ⟨mc, kq, cap, _, h1, Or.inr ⟨h2, by omega⟩, hb, fun j a b => by
      by_cases q : j = i
      · rw [q, upQ_eq, upA_eq]
      · rw [upQ_ne q, upA_ne q]; exact hg j a b⟩, hF⟩)
set_option maxRecDepth 100000 in
set_option maxHeartbeats 400000 in
theorem c_J8_newLength_cabcc {G : GG} {l : Launch} {w : Wd} {a b d : Int} (h0 : 0 < a ∧ a ≤ 10000000 ∧ 0 ≤ b ∧ b ≤ 10000000 ∧ 0 ≤ d ∧ d ≤ 10000000) : MG G l yJ8_newLength_cabcc wsJ8_newLength_cabcc 2 80 (0) (0) [.int (iI a), .int (iI b), .int (iI d)] w (pI (fun (x : Int) (w' : Wd) => ((b < d ∧ x = a + d) ∨ (¬ b < d ∧ x = a + b)) ∧ w' = w)) := by
  refine MG.of (cc := cJ8_newLength_cabcc) (nL := 4) (ret := (some .int)) (ll := [some (.int (iI a)), some (.int (iI b)), some (.int (iI d)), none]) (by decide) rfl (Nat.le_of_ble_eq_true rfl) rfl ?_
  intro p e s m args below meth c C
  have hts := C.2.2.2.2.1
  refine poI (P := fun PO => V G p l e _ s m args below meth c (MQW G below args s _ _ (pI PO)) w 0 0 0 _ []) (fun PO hPO => ?_)
  obtain ⟨m9, hm9⟩ : ∃ m9 : Int, (b < d ∧ m9 = d) ∨ (¬ b < d ∧ m9 = b) := by
    by_cases q : b < d
    · exact ⟨d, Or.inl ⟨q, rfl⟩⟩
    · exact ⟨b, Or.inr ⟨q, rfl⟩⟩
  refine v_iload_n C dJ8_newLength_cabcc_0 rfl ?_
  refine v_iload_n C dJ8_newLength_cabcc_1 rfl ?_
  refine v_iload_n C dJ8_newLength_cabcc_2 rfl ?_
  refine v_max C (⟨by omega, by omega⟩) (⟨by omega, by omega⟩) (r := m9) (by omega) (List.mem_of_getElem? (i := 1) rfl) (List.mem_of_getElem? (i := 2) rfl) (List.mem_of_getElem? (i := 3) rfl) (List.mem_of_getElem? (i := 4) rfl) (Nat.le_of_ble_eq_true rfl) (Nat.le_of_ble_eq_true rfl) (by dsimp only; omega) (by dsimp only; omega) dJ8_newLength_cabcc_3 ?_
  refine v_iadd C dJ8_newLength_cabcc_6 ?_
  refine v_istore_n C dJ8_newLength_cabcc_7 bsl_4_3 (by decide) rfl ?_
  refine v_iconst C dJ8_newLength_cabcc_8 ?_
  refine v_iload_n C dJ8_newLength_cabcc_9 rfl ?_
  refine v_icmp_ge C (⟨by omega, by omega⟩) (⟨by omega, by omega⟩) (tgt := 21) dJ8_newLength_cabcc_10 (by decide) (fun c_10 => ?_) (fun c_10 => ?_)
  · exact absurd c_10 (by omega)
  · refine v_iload_n C dJ8_newLength_cabcc_13 rfl ?_
    refine v_ldcI C (v := 2147483639) (List.mem_of_getElem? (i := 5) rfl) (by decide +kernel) dJ8_newLength_cabcc_14 ?_
    refine v_icmp_gt C (⟨by omega, by omega⟩) (⟨by omega, by omega⟩) (tgt := 21) dJ8_newLength_cabcc_16 (by decide) (fun c_16 => ?_) (fun c_16 => ?_)
    · exact absurd c_16 (by omega)
    · refine v_iload_n C dJ8_newLength_cabcc_19 rfl ?_
      exact v_iret C rfl dJ8_newLength_cabcc_20 (by omega) (by omega) (hPO _ _ ⟨by omega, rfl⟩)
set_option maxRecDepth 100000 in
set_option maxHeartbeats 400000 in
theorem c_J7_copyOf_6403c {G : GG} {l : Launch} {w : Wd} {a t ci : Nat} {q0 : vw_C} {cap n : Int} {g : Int → Option Nat} (ha : w a = some (t, .inl (gO G, aQ cap g))) (ht : t ≠ 0) (hn : 0 ≤ cap ∧ cap < n ∧ n ≤ 20000000) (hel : Hel w ci cap g) (hq : vwCl[ci]? = some q0) (hca : (q0.1, "java/lang/Object") ∈ kkC) : MG G l yJ7_copyOf_6403c wsJ7_copyOf_6403c 2 80 (1) (n.toNat) [.ref a, .int (iI n), .ref (gMi G)] w (pR (fun (x : Option Nat) (w' : Wd) => ∃ b9, x = some b9 ∧ w' b9 = some (0, .inl (gO G, aQ n (cpI g (fun _ => none) 0 0 cap))) ∧ Fr (fun t => t = 0) w w')) := by
  refine MG.of (cc := cJ7_copyOf_6403c) (nL := 4) (ret := (some (.array (.object "java/lang/Object")))) (ll := [some (.ref a), some (.int (iI n)), some (.ref (gMi G)), none]) (by decide) rfl (Nat.le_of_ble_eq_true rfl) rfl ?_
  intro p e s m args below meth c C
  have hts := C.2.2.2.2.1
  refine poR (P := fun PO => V G p l e _ s m args below meth c (MQW G below args s _ _ (pR PO)) w 0 0 0 _ []) (fun PO hPO => ?_)
  obtain ⟨w0, hw0⟩ : ∃ z, z = w := ⟨_, rfl⟩
  rw [← hw0] at hPO
  have hF : Fr (fun t => t = 0) w0 w := by rw [hw0]; exact Fr.rf
  refine v_aload_n C dJ7_copyOf_6403c_0 rfl ?_
  refine v_ldcM C (List.mem_of_getElem? (i := 1) rfl) dJ7_copyOf_6403c_1 ?_
  refine v_acmp_neS C (tgt := 13) dJ7_copyOf_6403c_3 (by decide) ?_
  refine v_iload_n C dJ7_copyOf_6403c_6 rfl ?_
  refine v_newQ C (0) (List.mem_of_getElem? (i := 2) rfl) (by omega) (by omega) (by dsimp only; omega) (by dsimp only; omega) dJ7_copyOf_6403c_7 (fun a7 ha7 => ?_)
  refine v_fresh ha7 (fun w h7 hF9 hE9 => ?_)
  have ha := hF9 _ _ _ (fun h9 => h9) ha
  have hel := hel.fresh hF9
  have hF := hF.tr (hF9.mono (fun t h9 => h9.elim))
  refine v_goto C (tgt := 24) dJ7_copyOf_6403c_10 (by decide) ?_
  refine v_astore_n C dJ7_copyOf_6403c_24 bsl_4_3 (by decide) rfl ?_
  refine v_aload_n C dJ7_copyOf_6403c_25 rfl ?_
  refine v_iconst C dJ7_copyOf_6403c_26 ?_
  refine v_aload_n C dJ7_copyOf_6403c_27 rfl ?_
  refine v_iconst C dJ7_copyOf_6403c_28 ?_
  refine v_aload_n C dJ7_copyOf_6403c_29 rfl ?_
  refine v_alen C ha (n := cap) (i := 3) rfl (Int.toNat_of_nonneg (a := cap) (by omega)) dJ7_copyOf_6403c_30 ?_
  refine v_iload_n C dJ7_copyOf_6403c_31 rfl ?_
  refine v_min C (⟨by omega, by omega⟩) (⟨by omega, by omega⟩) (r := cap) (by omega) (List.mem_of_getElem? (i := 3) rfl) (List.mem_of_getElem? (i := 4) rfl) (List.mem_of_getElem? (i := 5) rfl) (List.mem_of_getElem? (i := 6) rfl) (Nat.le_of_ble_eq_true rfl) (Nat.le_of_ble_eq_true rfl) (by dsimp only; omega) (by dsimp only; omega) dJ7_copyOf_6403c_32 ?_
  refine v_copyQ C ha h7 (List.mem_of_getElem? (i := 7) rfl) (List.mem_of_getElem? (i := 8) rfl) (List.mem_of_getElem? (i := 9) rfl) (List.mem_of_getElem? (i := 10) rfl) (⟨by omega, by omega, by omega⟩) (⟨by omega, by omega, by omega, by omega⟩) (fun j h8 h9 b e => hel j (by omega) (by omega) b e) hq hca (Nat.le_of_ble_eq_true rfl) (Nat.le_of_ble_eq_true rfl) dJ7_copyOf_6403c_35 ?_
  refine v_upd h7 (fun w h7 hF9 hE9 => ?_)
  have ha := hF9 _ _ _ (fun h9 => by have h8 : t = 0 := h9; omega) ha
  have hF := hF.tr (hF9.mono (fun t h9 => by have h8 : t = 0 := h9; show t = 0; omega))
  refine v_aload_n C dJ7_copyOf_6403c_38 rfl ?_
  exact v_aret C rfl (Or.inr ⟨_, rfl⟩) dJ7_copyOf_6403c_39 (by omega) (by omega) (hPO _ _ ⟨a7, rfl, h7, hF⟩)
set_option maxRecDepth 100000 in
set_option maxHeartbeats 400000 in
theorem c_J7_copyOf_1904c {G : GG} {l : Launch} {w : Wd} {a t ci : Nat} {q0 : vw_C} {cap n : Int} {g : Int → Option Nat} (ha : w a = some (t, .inl (gO G, aQ cap g))) (ht : t ≠ 0) (hn : 0 ≤ cap ∧ cap < n ∧ n ≤ 20000000) (hel : Hel w ci cap g) (hq : vwCl[ci]? = some q0) (hca : (q0.1, "java/lang/Object") ∈ kkC) : MG G l yJ7_copyOf_1904c wsJ7_copyOf_1904c 3 120 (1) (n.toNat) [.ref a, .int (iI n)] w (pR (fun (x : Option Nat) (w' : Wd) => ∃ b9, x = some b9 ∧ w' b9 = some (0, .inl (gO G, aQ n (cpI g (fun _ => none) 0 0 cap))) ∧ Fr (fun t => t = 0) w w')) := by
  refine MG.of (cc := cJ7_copyOf_1904c) (nL := 2) (ret := (some (.array (.object "java/lang/Object")))) (ll := [some (.ref a), some (.int (iI n))]) (by decide) rfl (Nat.le_of_ble_eq_true rfl) rfl ?_
  intro p e s m args below meth c C
  have hts := C.2.2.2.2.1
  refine poR (P := fun PO => V G p l e _ s m args below meth c (MQW G below args s _ _ (pR PO)) w 0 0 0 _ []) (fun PO hPO => ?_)
  obtain ⟨w0, hw0⟩ : ∃ z, z = w := ⟨_, rfl⟩
  rw [← hw0] at hPO
  have hF : Fr (fun t => t = 0) w0 w := by rw [hw0]; exact Fr.rf
  refine v_aload_n C dJ7_copyOf_1904c_0 rfl ?_
  refine v_iload_n C dJ7_copyOf_1904c_1 rfl ?_
  refine v_aload_n C dJ7_copyOf_1904c_2 rfl ?_
  refine v_getC C ha (List.mem_of_getElem? (i := 1) rfl) (List.mem_of_getElem? (i := 2) rfl) (List.mem_of_getElem? (i := 3) rfl) (List.mem_of_getElem? (i := 4) rfl) (Nat.le_of_ble_eq_true rfl) (Nat.le_of_ble_eq_true rfl) dJ7_copyOf_1904c_3 ?_
  refine v_callSr C (b := 0) (t := 0) (ci := 0) (fs := []) (q := (RX7, TX7, 33)) (As := [_, _, _]) (rest := []) (c_J7_copyOf_6403c ha ht hn hel hq hca) (va_cwS 3 hts gJ7_copyOf_1904c_J7_copyOf_6403c rfl rfl rfl (by decide +kernel) ⟨Nat.le_of_ble_eq_true rfl, Nat.le_of_ble_eq_true rfl⟩) rfl rfl (Nat.le_of_ble_eq_true rfl) dJ7_copyOf_1904c_6 (by dsimp only; omega) (by dsimp only; omega) (fun x_6 w hp => ?_)
  obtain ⟨b9, rfl, h3, hF9⟩ := hp
  have ha := hF9 _ _ _ (fun h9 => by have h8 : t = 0 := h9; omega) ha
  have hF := hF.tr (hF9.mono (fun t h9 => by have h8 : t = 0 := h9; show t = 0; omega))
  exact v_aret C rfl (Or.inr ⟨_, rfl⟩) dJ7_copyOf_1904c_9 (by omega) (by omega) (hPO _ _ ⟨b9, rfl, h3, hF⟩)
