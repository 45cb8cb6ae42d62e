
set_option maxRecDepth 100000 in
set_option maxHeartbeats 400000 in
theorem c_X6_init {G : GG} {l : Launch} {w : Wd} {r : Nat}  (h1 : w r = some (1, .inr (9, [.null, .null, .null, .null, .null, .null]))) : MG G l yX6_init wsX6_init 6 240 (14) (540) [.ref r] w (pV (fun (w' : Wd) => ∃ wr tp ra rb : Nat, w' r = some (1, .inr (9, [.ref wr, .ref tp, .ref ra, .ref rb, .null, .null])) ∧ WiresAt G w' wr 0 (fun _ => 0) ∧ BytesAt G w' 4 tp 0 64 (fun _ => 0) ∧ RowM G w' 10 ra 64 64 [] (fun _ => 0) ∧ SpR G w' 20 rb 64 64 ∧ Fr (fun t => t < 26) w w')) := by
  refine MG.of (cc := cX6_init) (nL := 1) (ret := none) (ll := [some (.ref r)]) (by decide) rfl (Nat.le_of_ble_eq_true rfl) rfl ?_
  intro p e s m args below meth c C
  have hts := C.2.2.2.2.1
  have p10 : PutX G s m args meth 10 9 0 (.object "TraceBook$Wires") := putX_of C 9 0 tyX6 tyX6_ok nmX6 (T := TX6) (N := 6) (Cn := RX6) (ref := "TraceBook") rfl (by decide) (fun _ h => List.mem_cons_of_mem _ (List.mem_append_left _ (List.mem_append_left _ (List.mem_append_left _ (List.mem_append_right _ (h)))))) (List.mem_of_getElem? (i := 7) rfl) (fun _ h => h) rfl rfl rfl (by decide +kernel)
  have p19 : PutX G s m args meth 19 9 1 (.object "TraceBook$Bytes") := putX_of C 9 1 tyX6 tyX6_ok nmX6 (T := TX6) (N := 6) (Cn := RX6) (ref := "TraceBook") rfl (by decide) (fun _ h => List.mem_cons_of_mem _ (List.mem_append_left _ (List.mem_append_left _ (List.mem_append_left _ (List.mem_append_right _ (h)))))) (List.mem_of_getElem? (i := 11) rfl) (fun _ h => h) rfl rfl rfl (by decide +kernel)
  have p26 : PutF G s m args 26 9 2 (.object "TraceBook$Row") := putF_of C 9 2 tyX6 tyX6_ok nmX6 (T := TX6) (N := 6) (Cn := RX6) (ref := "TraceBook") rfl (by decide) (fun _ h => List.mem_cons_of_mem _ (List.mem_append_left _ (List.mem_append_left _ (List.mem_append_left _ (List.mem_append_right _ (h)))))) (List.mem_of_getElem? (i := 15) rfl) (fun _ h => h) rfl (by decide +kernel)
  have p30 : PutF G s m args 30 9 3 (.object "TraceBook$Row") := putF_of C 9 3 tyX6 tyX6_ok nmX6 (T := TX6) (N := 6) (Cn := RX6) (ref := "TraceBook") rfl (by decide) (fun _ h => List.mem_cons_of_mem _ (List.mem_append_left _ (List.mem_append_left _ (List.mem_append_left _ (List.mem_append_right _ (h)))))) (List.mem_of_getElem? (i := 16) rfl) (fun _ h => h) rfl (by decide +kernel)
  have p33 : PutF G s m args 33 9 4 (.object "TraceBook$Moment") := putF_of C 9 4 tyX6 tyX6_ok nmX6 (T := TX6) (N := 6) (Cn := RX6) (ref := "TraceBook") rfl (by decide) (fun _ h => List.mem_cons_of_mem _ (List.mem_append_left _ (List.mem_append_left _ (List.mem_append_left _ (List.mem_append_right _ (h)))))) (List.mem_of_getElem? (i := 17) rfl) (fun _ h => h) rfl (by decide +kernel)
  have p37 : PutF G s m args 37 9 5 (.object "TraceBook$Moment") := putF_of C 9 5 tyX6 tyX6_ok nmX6 (T := TX6) (N := 6) (Cn := RX6) (ref := "TraceBook") rfl (by decide) (fun _ h => List.mem_cons_of_mem _ (List.mem_append_left _ (List.mem_append_left _ (List.mem_append_left _ (List.mem_append_right _ (h)))))) (List.mem_of_getElem? (i := 18) rfl) (fun _ h => h) rfl (by decide +kernel)
  refine poV (P := fun PO => V G p l e _ s m args below meth c (MQW G below args s _ _ (pV PO)) w 0 0 0 _ []) (fun PO hPO => ?_)
  obtain ⟨w0, hw0⟩ : ∃ z, z = w := ⟨_, rfl⟩
  rw [← hw0] at hPO
  have hF : Fr (fun t => t < 26) w0 w := by rw [hw0]; exact Fr.rf
  refine v_aload_n C dX6_init_0 rfl ?_
  refine v_objInit C (List.mem_of_getElem? (i := 1) rfl) (List.mem_of_getElem? (i := 2) rfl) (List.mem_of_getElem? (i := 3) rfl) (Nat.le_of_ble_eq_true rfl) (Nat.le_of_ble_eq_true rfl) dX6_init_1 ?_
  refine v_aload_n C dX6_init_4 rfl ?_
  refine v_new C (ci := 8) (T := TX5) (N := 2) (Cn := RX5) (fs := [.null, .int (iI 0)]) (2) tyX5 tyX5_ok rfl (fun _ h => List.mem_cons_of_mem _ (List.mem_append_left _ (List.mem_append_left _ (List.mem_append_left _ (List.mem_append_left _ (List.mem_append_right _ (h))))))) (List.mem_of_getElem? (i := 4) rfl) (List.mem_of_getElem? (i := 5) rfl) (List.mem_of_getElem? (i := 6) rfl) (fun j hj => by rcases (by omega : j = 0 ∨ j = 1) with rfl | rfl <;> rfl) (by dsimp only; omega) (by dsimp only; omega) dX6_init_5 (fun a5 ha5 => ?_)
  refine v_fresh ha5 (fun w h5 hF9 hE9 => ?_)
  have h1 := hF9 _ _ _ (fun h9 => h9) h1
  have hF := hF.tr (hF9.mono (fun t h9 => h9.elim))
  refine v_dup C rfl dX6_init_8 ?_
  refine v_callI C (ret2 := none) (b := _) (t := 0) (ci := 0) (fs := []) (q := (RX7, TX7, 33)) (As := []) (rest := [_, _]) (c_X5_init h5) (cwI 0 hts gX6_init_X5_init rfl rfl rfl (hts _ (List.mem_of_getElem? (i := 6) rfl)) (hts _ (List.mem_of_getElem? (i := 19) rfl)) (hts _ (List.mem_of_getElem? (i := 20) rfl)) rfl (by decide +kernel) ⟨Nat.le_of_ble_eq_true rfl, Nat.le_of_ble_eq_true rfl⟩) rfl rfl (Nat.le_of_ble_eq_true rfl) dX6_init_9 (by dsimp only; omega) (by dsimp only; omega) (fun w hp => ?_)
  obtain ⟨hW, hF9⟩ := hp
  have h1 := hF9 _ _ _ (fun h9 => by have h8 : 1 = 2 ∨ 1 = 3 := h9; omega) h1
  have hF := hF.tr (hF9.mono (fun t h9 => by have h8 : t = 2 ∨ t = 3 := h9; show t < 26; omega))
  refine v_putX C p10 h1 rfl rfl (Nat.le_of_ble_eq_true rfl) dX6_init_12 ?_
  refine v_upd h1 (fun w h1 hF9 hE9 => ?_)
  have hW := hW.fr hF9 (fun h9 => by have h8 : 2 = 1 := h9; omega) (fun h9 => by have h8 : 3 = 1 := h9; omega)
  have hF := hF.tr (hF9.mono (fun t h9 => by have h8 : t = 1 := h9; show t < 26; omega))
  refine v_aload_n C dX6_init_15 rfl ?_
  refine v_new C (ci := 3) (T := TX0) (N := 2) (Cn := RX0) (fs := [.null, .int (iI 0)]) (4) tyX0 tyX0_ok rfl (fun _ h => List.mem_cons_of_mem _ (List.mem_append_left _ (List.mem_append_left _ (List.mem_append_right _ (h))))) (List.mem_of_getElem? (i := 8) rfl) (List.mem_of_getElem? (i := 9) rfl) (List.mem_of_getElem? (i := 10) rfl) (fun j hj => by rcases (by omega : j = 0 ∨ j = 1) with rfl | rfl <;> rfl) (by dsimp only; omega) (by dsimp only; omega) dX6_init_16 (fun a16 ha16 => ?_)
  refine v_fresh ha16 (fun w h16 hF9 hE9 => ?_)
  have h1 := hF9 _ _ _ (fun h9 => h9) h1
  have hW := hW.fr hF9 (fun h9 => h9) (fun h9 => h9)
  have hF := hF.tr (hF9.mono (fun t h9 => h9.elim))
  refine v_dup C rfl dX6_init_19 ?_
  refine v_callI C (ret2 := none) (b := _) (t := 0) (ci := 0) (fs := []) (q := (RX7, TX7, 33)) (As := []) (rest := [_, _]) (c_X0_init h16 (by omega)) (cwI 0 hts gX6_init_X0_init rfl rfl rfl (hts _ (List.mem_of_getElem? (i := 10) rfl)) (hts _ (List.mem_of_getElem? (i := 26) rfl)) (hts _ (List.mem_of_getElem? (i := 27) rfl)) rfl (by decide +kernel) ⟨Nat.le_of_ble_eq_true rfl, Nat.le_of_ble_eq_true rfl⟩) rfl rfl (Nat.le_of_ble_eq_true rfl) dX6_init_20 (by dsimp only; omega) (by dsimp only; omega) (fun w hp => ?_)
  obtain ⟨hT, hF9⟩ := hp
  have h1 := hF9 _ _ _ (fun h9 => by have h8 : 1 = 4 ∨ 1 = 4 + 1 := h9; omega) h1
  have hW := hW.fr hF9 (fun h9 => by have h8 : 2 = 4 ∨ 2 = 4 + 1 := h9; omega) (fun h9 => by have h8 : 3 = 4 ∨ 3 = 4 + 1 := h9; omega)
  have hF := hF.tr (hF9.mono (fun t h9 => by have h8 : t = 4 ∨ t = 4 + 1 := h9; show t < 26; omega))
  refine v_putX C p19 h1 rfl rfl (Nat.le_of_ble_eq_true rfl) dX6_init_23 ?_
  refine v_upd h1 (fun w h1 hF9 hE9 => ?_)
  have hW := hW.fr hF9 (fun h9 => by have h8 : 2 = 1 := h9; omega) (fun h9 => by have h8 : 3 = 1 := h9; omega)
  have hT := hT.fr hF9 (fun h9 => by have h8 : 4 = 1 := h9; omega) (fun h9 => by have h8 : 4 + 1 = 1 := h9; omega)
  have hF := hF.tr (hF9.mono (fun t h9 => by have h8 : t = 1 := h9; show t < 26; omega))
  refine v_aload_n C dX6_init_26 rfl ?_
  refine v_new C (ci := 7) (T := TX4) (N := 3) (Cn := RX4) (fs := [.null, .null, .null]) (10) tyX4 tyX4_ok rfl (fun _ h => List.mem_cons_of_mem _ (List.mem_append_left _ (List.mem_append_right _ (h)))) (List.mem_of_getElem? (i := 12) rfl) (List.mem_of_getElem? (i := 13) rfl) (List.mem_of_getElem? (i := 14) rfl) (fun j hj => by rcases (by omega : j = 0 ∨ j = 1 ∨ j = 2) with rfl | rfl | rfl <;> rfl) (by dsimp only; omega) (by dsimp only; omega) dX6_init_27 (fun a27 ha27 => ?_)
  refine v_fresh ha27 (fun w h27 hF9 hE9 => ?_)
  have h1 := hF9 _ _ _ (fun h9 => h9) h1
  have hW := hW.fr hF9 (fun h9 => h9) (fun h9 => h9)
  have hT := hT.fr hF9 (fun h9 => h9) (fun h9 => h9)
  have hF := hF.tr (hF9.mono (fun t h9 => h9.elim))
  refine v_dup C rfl dX6_init_30 ?_
  refine v_callI C (ret2 := none) (b := _) (t := 0) (ci := 0) (fs := []) (q := (RX7, TX7, 33)) (As := []) (rest := [_, _]) (c_X4_init h27 (by omega)) (cwI 0 hts gX6_init_X4_init rfl rfl rfl (hts _ (List.mem_of_getElem? (i := 14) rfl)) (hts _ (List.mem_of_getElem? (i := 33) rfl)) (hts _ (List.mem_of_getElem? (i := 34) rfl)) rfl (by decide +kernel) ⟨Nat.le_of_ble_eq_true rfl, Nat.le_of_ble_eq_true rfl⟩) rfl rfl (Nat.le_of_ble_eq_true rfl) dX6_init_31 (by dsimp only; omega) (by dsimp only; omega) (fun w hp => ?_)
  obtain ⟨bt1, ml1, vk1, hA0, hF9⟩ := hp
  have hA := RowM.nil hA0 (fun _ _ _ => rfl)
  have h1 := hF9 _ _ _ (fun h9 => by have h8 : 1 = 10 ∨ 1 = 10 + 1 ∨ 1 = 10 + 2 ∨ 1 = 10 + 3 ∨ 1 = 10 + 4 ∨ 1 = 10 + 5 ∨ 1 = 0 := h9; omega) h1
  have hW := hW.fr hF9 (fun h9 => by have h8 : 2 = 10 ∨ 2 = 10 + 1 ∨ 2 = 10 + 2 ∨ 2 = 10 + 3 ∨ 2 = 10 + 4 ∨ 2 = 10 + 5 ∨ 2 = 0 := h9; omega) (fun h9 => by have h8 : 3 = 10 ∨ 3 = 10 + 1 ∨ 3 = 10 + 2 ∨ 3 = 10 + 3 ∨ 3 = 10 + 4 ∨ 3 = 10 + 5 ∨ 3 = 0 := h9; omega)
  have hT := hT.fr hF9 (fun h9 => by have h8 : 4 = 10 ∨ 4 = 10 + 1 ∨ 4 = 10 + 2 ∨ 4 = 10 + 3 ∨ 4 = 10 + 4 ∨ 4 = 10 + 5 ∨ 4 = 0 := h9; omega) (fun h9 => by have h8 : 4 + 1 = 10 ∨ 4 + 1 = 10 + 1 ∨ 4 + 1 = 10 + 2 ∨ 4 + 1 = 10 + 3 ∨ 4 + 1 = 10 + 4 ∨ 4 + 1 = 10 + 5 ∨ 4 + 1 = 0 := h9; omega)
  have hF := hF.tr (hF9.mono (fun t h9 => by have h8 : t = 10 ∨ t = 10 + 1 ∨ t = 10 + 2 ∨ t = 10 + 3 ∨ t = 10 + 4 ∨ t = 10 + 5 ∨ t = 0 := h9; show t < 26; omega))
  refine v_putf C p26 h1 rfl rfl (Nat.le_of_ble_eq_true rfl) dX6_init_34 ?_
  refine v_upd h1 (fun w h1 hF9 hE9 => ?_)
  have hA := hA.fr hF9 (fun t x y h9 => by have h8 : t = 1 := h9; omega) (fun i x y t z u h9 => by have h8 : t = 1 := h9; omega)
  have hW := hW.fr hF9 (fun h9 => by have h8 : 2 = 1 := h9; omega) (fun h9 => by have h8 : 3 = 1 := h9; omega)
  have hT := hT.fr hF9 (fun h9 => by have h8 : 4 = 1 := h9; omega) (fun h9 => by have h8 : 4 + 1 = 1 := h9; omega)
  have hF := hF.tr (hF9.mono (fun t h9 => by have h8 : t = 1 := h9; show t < 26; omega))
  refine v_aload_n C dX6_init_37 rfl ?_
  refine v_new C (ci := 7) (T := TX4) (N := 3) (Cn := RX4) (fs := [.null, .null, .null]) (20) tyX4 tyX4_ok rfl (fun _ h => List.mem_cons_of_mem _ (List.mem_append_left _ (List.mem_append_right _ (h)))) (List.mem_of_getElem? (i := 12) rfl) (List.mem_of_getElem? (i := 13) rfl) (List.mem_of_getElem? (i := 14) rfl) (fun j hj => by rcases (by omega : j = 0 ∨ j = 1 ∨ j = 2) with rfl | rfl | rfl <;> rfl) (by dsimp only; omega) (by dsimp only; omega) dX6_init_38 (fun a38 ha38 => ?_)
  refine v_fresh ha38 (fun w h38 hF9 hE9 => ?_)
  have hA := hA.fr hF9 (fun t x y h9 => h9) (fun i x y t z u h9 => h9)
  have h1 := hF9 _ _ _ (fun h9 => h9) h1
  have hW := hW.fr hF9 (fun h9 => h9) (fun h9 => h9)
  have hT := hT.fr hF9 (fun h9 => h9) (fun h9 => h9)
  have hF := hF.tr (hF9.mono (fun t h9 => h9.elim))
  refine v_dup C rfl dX6_init_41 ?_
  refine v_callI C (ret2 := none) (b := _) (t := 0) (ci := 0) (fs := []) (q := (RX7, TX7, 33)) (As := []) (rest := [_, _]) (c_X4_init h38 (by omega)) (cwI 0 hts gX6_init_X4_init rfl rfl rfl (hts _ (List.mem_of_getElem? (i := 14) rfl)) (hts _ (List.mem_of_getElem? (i := 33) rfl)) (hts _ (List.mem_of_getElem? (i := 34) rfl)) rfl (by decide +kernel) ⟨Nat.le_of_ble_eq_true rfl, Nat.le_of_ble_eq_true rfl⟩) rfl rfl (Nat.le_of_ble_eq_true rfl) dX6_init_42 (by dsimp only; omega) (by dsimp only; omega) (fun w hp => ?_)
  obtain ⟨bt2, ml2, vk2, hS0, hF9⟩ := hp
  have hS : SpR G w 20 a38 64 64 := ⟨bt2, ml2, vk2, _, _, _, _, _, hS0⟩
  have hA := hA.fr hF9 (fun t x y h9 => by have h8 : t = 20 ∨ t = 20 + 1 ∨ t = 20 + 2 ∨ t = 20 + 3 ∨ t = 20 + 4 ∨ t = 20 + 5 ∨ t = 0 := h9; omega) (fun i x y t z u h9 => by have h8 : t = 20 ∨ t = 20 + 1 ∨ t = 20 + 2 ∨ t = 20 + 3 ∨ t = 20 + 4 ∨ t = 20 + 5 ∨ t = 0 := h9; omega)
  have h1 := hF9 _ _ _ (fun h9 => by have h8 : 1 = 20 ∨ 1 = 20 + 1 ∨ 1 = 20 + 2 ∨ 1 = 20 + 3 ∨ 1 = 20 + 4 ∨ 1 = 20 + 5 ∨ 1 = 0 := h9; omega) h1
  have hW := hW.fr hF9 (fun h9 => by have h8 : 2 = 20 ∨ 2 = 20 + 1 ∨ 2 = 20 + 2 ∨ 2 = 20 + 3 ∨ 2 = 20 + 4 ∨ 2 = 20 + 5 ∨ 2 = 0 := h9; omega) (fun h9 => by have h8 : 3 = 20 ∨ 3 = 20 + 1 ∨ 3 = 20 + 2 ∨ 3 = 20 + 3 ∨ 3 = 20 + 4 ∨ 3 = 20 + 5 ∨ 3 = 0 := h9; omega)
  have hT := hT.fr hF9 (fun h9 => by have h8 : 4 = 20 ∨ 4 = 20 + 1 ∨ 4 = 20 + 2 ∨ 4 = 20 + 3 ∨ 4 = 20 + 4 ∨ 4 = 20 + 5 ∨ 4 = 0 := h9; omega) (fun h9 => by have h8 : 4 + 1 = 20 ∨ 4 + 1 = 20 + 1 ∨ 4 + 1 = 20 + 2 ∨ 4 + 1 = 20 + 3 ∨ 4 + 1 = 20 + 4 ∨ 4 + 1 = 20 + 5 ∨ 4 + 1 = 0 := h9; omega)
  have hF := hF.tr (hF9.mono (fun t h9 => by have h8 : t = 20 ∨ t = 20 + 1 ∨ t = 20 + 2 ∨ t = 20 + 3 ∨ t = 20 + 4 ∨ t = 20 + 5 ∨ t = 0 := h9; show t < 26; omega))
  refine v_putf C p30 h1 rfl rfl (Nat.le_of_ble_eq_true rfl) dX6_init_45 ?_
  refine v_upd h1 (fun w h1 hF9 hE9 => ?_)
  have hA := hA.fr hF9 (fun t x y h9 => by have h8 : t = 1 := h9; omega) (fun i x y t z u h9 => by have h8 : t = 1 := h9; omega)
  have hS := hS.fr hF9 (fun t x y h9 => by have h8 : t = 1 := h9; omega)
  have hW := hW.fr hF9 (fun h9 => by have h8 : 2 = 1 := h9; omega) (fun h9 => by have h8 : 3 = 1 := h9; omega)
  have hT := hT.fr hF9 (fun h9 => by have h8 : 4 = 1 := h9; omega) (fun h9 => by have h8 : 4 + 1 = 1 := h9; omega)
  have hF := hF.tr (hF9.mono (fun t h9 => by have h8 : t = 1 := h9; show t < 26; omega))
  refine v_aload_n C dX6_init_48 rfl ?_
  refine v_null C dX6_init_49 ?_
  refine v_putf C p33 h1 rfl rfl (Nat.le_of_ble_eq_true rfl) dX6_init_50 ?_
  refine v_upd h1 (fun w h1 hF9 hE9 => ?_)
  have hA := hA.fr hF9 (fun t x y h9 => by have h8 : t = 1 := h9; omega) (fun i x y t z u h9 => by have h8 : t = 1 := h9; omega)
  have hS := hS.fr hF9 (fun t x y h9 => by have h8 : t = 1 := h9; omega)
  have hW := hW.fr hF9 (fun h9 => by have h8 : 2 = 1 := h9; omega) (fun h9 => by have h8 : 3 = 1 := h9; omega)
  have hT := hT.fr hF9 (fun h9 => by have h8 : 4 = 1 := h9; omega) (fun h9 => by have h8 : 4 + 1 = 1 := h9; omega)
  have hF := hF.tr (hF9.mono (fun t h9 => by have h8 : t = 1 := h9; show t < 26; omega))
  refine v_aload_n C dX6_init_53 rfl ?_
  refine v_null C dX6_init_54 ?_
  refine v_putf C p37 h1 rfl rfl (Nat.le_of_ble_eq_true rfl) dX6_init_55 ?_
  refine v_upd h1 (fun w h1 hF9 hE9 => ?_)
  have hA := hA.fr hF9 (fun t x y h9 => by have h8 : t = 1 := h9; omega) (fun i x y t z u h9 => by have h8 : t = 1 := h9; omega)
  have hS := hS.fr hF9 (fun t x y h9 => by have h8 : t = 1 := h9; omega)
  have hW := hW.fr hF9 (fun h9 => by have h8 : 2 = 1 := h9; omega) (fun h9 => by have h8 : 3 = 1 := h9; omega)
  have hT := hT.fr hF9 (fun h9 => by have h8 : 4 = 1 := h9; omega) (fun h9 => by have h8 : 4 + 1 = 1 := h9; omega)
  have hF := hF.tr (hF9.mono (fun t h9 => by have h8 : t = 1 := h9; show t < 26; omega))
  exact v_vret C rfl dX6_init_58 (by omega) (by omega) (hPO _ ⟨a5, a16, a27, a38, h1, hW, hT, hA, hS, hF⟩)
set_option maxRecDepth 100000 in
set_option maxHeartbeats 8000000 in
theorem c_X7_init {G : GG} {l : Launch} {w : Wd} {r : Nat}  (h1 : w r = some (30, .inr (10, [.int (iI 0), .null, .int (iI 0), .null, .null, .int (iI 0), .int (iI 0), .long (lI 0), .long (lI 0), .null, .null, .null, .int (iI 0), .null, .null, .null, .null, .int (iI 0), .null, .int (iI 0), .null, .int (iI 0), .int (iI 0), .int (iI 0), .int (iI 0), .null, .null, .null, .null, .int (iI 0), .null, .null, .int (iI 0)]))) : MG G l yX7_init wsX7_init 2 80 (18) (428612) [.ref r] w (pV (fun (w' : Wd) => ∃ ad : Nat → Nat, RefAt G r ad w' 0 0 0 0 0 0 0 0 0 0 0 0 0 0 0 (fun _ => 0) (fun _ => 0) (fun _ => 0) (fun _ => 0) (fun _ => 0) (fun _ => 0) (fun _ => 0) (fun _ => 0) (fun _ => 0) (fun _ => 0) (fun _ => 0) (fun _ => 0) (fun _ => 0) (fun _ => 0) (fun _ => 0) (fun _ => 0) (fun _ => 0) (fun _ => 0) ∧ Fr mT w w')) := by
  refine MG.of (cc := cX7_init) (nL := 1) (ret := none) (ll := [some (.ref r)]) (by decide) rfl (Nat.le_of_ble_eq_true rfl) rfl ?_
  intro p e s m args below meth c C
  have hts := C.2.2.2.2.1
  have p7 : PutX G s m args meth 7 10 1 (.array .int) := putX_of C 10 1 tyX7 tyX7_ok nmX7 (T := TX7) (N := 33) (Cn := RX7) (ref := "TraceBookModel") rfl (by decide) (fun _ h => List.mem_cons_of_mem _ (List.mem_append_right _ (h))) (List.mem_of_getElem? (i := 5) rfl) (fun _ h => h) rfl rfl rfl (by decide +kernel)
  have p13 : PutX G s m args meth 13 10 3 (.array .int) := putX_of C 10 3 tyX7 tyX7_ok nmX7 (T := TX7) (N := 33) (Cn := RX7) (ref := "TraceBookModel") rfl (by decide) (fun _ h => List.mem_cons_of_mem _ (List.mem_append_right _ (h))) (List.mem_of_getElem? (i := 6) rfl) (fun _ h => h) rfl rfl rfl (by decide +kernel)
  have p16 : PutX G s m args meth 16 10 4 (.array .int) := putX_of C 10 4 tyX7 tyX7_ok nmX7 (T := TX7) (N := 33) (Cn := RX7) (ref := "TraceBookModel") rfl (by decide) (fun _ h => List.mem_cons_of_mem _ (List.mem_append_right _ (h))) (List.mem_of_getElem? (i := 7) rfl) (fun _ h => h) rfl rfl rfl (by decide +kernel)
  have p19 : PutX G s m args meth 19 10 9 (.array .long) := putX_of C 10 9 tyX7 tyX7_ok nmX7 (T := TX7) (N := 33) (Cn := RX7) (ref := "TraceBookModel") rfl (by decide) (fun _ h => List.mem_cons_of_mem _ (List.mem_append_right _ (h))) (List.mem_of_getElem? (i := 9) rfl) (fun _ h => h) rfl rfl rfl (by decide +kernel)
  have p23 : PutX G s m args meth 23 10 10 (.array .long) := putX_of C 10 10 tyX7 tyX7_ok nmX7 (T := TX7) (N := 33) (Cn := RX7) (ref := "TraceBookModel") rfl (by decide) (fun _ h => List.mem_cons_of_mem _ (List.mem_append_right _ (h))) (List.mem_of_getElem? (i := 10) rfl) (fun _ h => h) rfl rfl rfl (by decide +kernel)
  have p26 : PutX G s m args meth 26 10 11 (.array .int) := putX_of C 10 11 tyX7 tyX7_ok nmX7 (T := TX7) (N := 33) (Cn := RX7) (ref := "TraceBookModel") rfl (by decide) (fun _ h => List.mem_cons_of_mem _ (List.mem_append_right _ (h))) (List.mem_of_getElem? (i := 11) rfl) (fun _ h => h) rfl rfl rfl (by decide +kernel)
  have p29 : PutX G s m args meth 29 10 13 (.array .int) := putX_of C 10 13 tyX7 tyX7_ok nmX7 (T := TX7) (N := 33) (Cn := RX7) (ref := "TraceBookModel") rfl (by decide) (fun _ h => List.mem_cons_of_mem _ (List.mem_append_right _ (h))) (List.mem_of_getElem? (i := 12) rfl) (fun _ h => h) rfl rfl rfl (by decide +kernel)
  have p32 : PutX G s m args meth 32 10 14 (.array .int) := putX_of C 10 14 tyX7 tyX7_ok nmX7 (T := TX7) (N := 33) (Cn := RX7) (ref := "TraceBookModel") rfl (by decide) (fun _ h => List.mem_cons_of_mem _ (List.mem_append_right _ (h))) (List.mem_of_getElem? (i := 13) rfl) (fun _ h => h) rfl rfl rfl (by decide +kernel)
  have p35 : PutX G s m args meth 35 10 15 (.array .int) := putX_of C 10 15 tyX7 tyX7_ok nmX7 (T := TX7) (N := 33) (Cn := RX7) (ref := "TraceBookModel") rfl (by decide) (fun _ h => List.mem_cons_of_mem _ (List.mem_append_right _ (h))) (List.mem_of_getElem? (i := 14) rfl) (fun _ h => h) rfl rfl rfl (by decide +kernel)
  have p38 : PutX G s m args meth 38 10 16 (.array .int) := putX_of C 10 16 tyX7 tyX7_ok nmX7 (T := TX7) (N := 33) (Cn := RX7) (ref := "TraceBookModel") rfl (by decide) (fun _ h => List.mem_cons_of_mem _ (List.mem_append_right _ (h))) (List.mem_of_getElem? (i := 15) rfl) (fun _ h => h) rfl rfl rfl (by decide +kernel)
  have p42 : PutX G s m args meth 42 10 18 (.array .int) := putX_of C 10 18 tyX7 tyX7_ok nmX7 (T := TX7) (N := 33) (Cn := RX7) (ref := "TraceBookModel") rfl (by decide) (fun _ h => List.mem_cons_of_mem _ (List.mem_append_right _ (h))) (List.mem_of_getElem? (i := 17) rfl) (fun _ h => h) rfl rfl rfl (by decide +kernel)
  have p45 : PutX G s m args meth 45 10 20 (.array .int) := putX_of C 10 20 tyX7 tyX7_ok nmX7 (T := TX7) (N := 33) (Cn := RX7) (ref := "TraceBookModel") rfl (by decide) (fun _ h => List.mem_cons_of_mem _ (List.mem_append_right _ (h))) (List.mem_of_getElem? (i := 18) rfl) (fun _ h => h) rfl rfl rfl (by decide +kernel)
  have p48 : PutX G s m args meth 48 10 25 (.array .int) := putX_of C 10 25 tyX7 tyX7_ok nmX7 (T := TX7) (N := 33) (Cn := RX7) (ref := "TraceBookModel") rfl (by decide) (fun _ h => List.mem_cons_of_mem _ (List.mem_append_right _ (h))) (List.mem_of_getElem? (i := 19) rfl) (fun _ h => h) rfl rfl rfl (by decide +kernel)
  have p51 : PutX G s m args meth 51 10 26 (.array .long) := putX_of C 10 26 tyX7 tyX7_ok nmX7 (T := TX7) (N := 33) (Cn := RX7) (ref := "TraceBookModel") rfl (by decide) (fun _ h => List.mem_cons_of_mem _ (List.mem_append_right _ (h))) (List.mem_of_getElem? (i := 20) rfl) (fun _ h => h) rfl rfl rfl (by decide +kernel)
  have p54 : PutX G s m args meth 54 10 27 (.array .long) := putX_of C 10 27 tyX7 tyX7_ok nmX7 (T := TX7) (N := 33) (Cn := RX7) (ref := "TraceBookModel") rfl (by decide) (fun _ h => List.mem_cons_of_mem _ (List.mem_append_right _ (h))) (List.mem_of_getElem? (i := 21) rfl) (fun _ h => h) rfl rfl rfl (by decide +kernel)
  have p57 : PutX G s m args meth 57 10 28 (.array .int) := putX_of C 10 28 tyX7 tyX7_ok nmX7 (T := TX7) (N := 33) (Cn := RX7) (ref := "TraceBookModel") rfl (by decide) (fun _ h => List.mem_cons_of_mem _ (List.mem_append_right _ (h))) (List.mem_of_getElem? (i := 22) rfl) (fun _ h => h) rfl rfl rfl (by decide +kernel)
  have p60 : PutX G s m args meth 60 10 30 (.array .int) := putX_of C 10 30 tyX7 tyX7_ok nmX7 (T := TX7) (N := 33) (Cn := RX7) (ref := "TraceBookModel") rfl (by decide) (fun _ h => List.mem_cons_of_mem _ (List.mem_append_right _ (h))) (List.mem_of_getElem? (i := 23) rfl) (fun _ h => h) rfl rfl rfl (by decide +kernel)
  have p63 : PutX G s m args meth 63 10 31 (.array .int) := putX_of C 10 31 tyX7 tyX7_ok nmX7 (T := TX7) (N := 33) (Cn := RX7) (ref := "TraceBookModel") rfl (by decide) (fun _ h => List.mem_cons_of_mem _ (List.mem_append_right _ (h))) (List.mem_of_getElem? (i := 24) rfl) (fun _ h => h) rfl rfl rfl (by decide +kernel)
  refine poV (P := fun PO => V G p l e _ s m args below meth c (MQW G below args s _ _ (pV PO)) w 0 0 0 _ []) (fun PO hPO => ?_)
  obtain ⟨w0, hw0⟩ : ∃ z, z = w := ⟨_, rfl⟩
  rw [← hw0] at hPO
  have hF : Fr (fun t => 30 ≤ t ∧ t < 70) w0 w := by rw [hw0]; exact Fr.rf
  refine v_aload_n C dX7_init_0 rfl ?_
  refine v_objInit C (List.mem_of_getElem? (i := 1) rfl) (List.mem_of_getElem? (i := 2) rfl) (List.mem_of_getElem? (i := 3) rfl) (Nat.le_of_ble_eq_true rfl) (Nat.le_of_ble_eq_true rfl) dX7_init_1 ?_
  refine v_aload_n C dX7_init_4 rfl ?_
  refine v_sipush C dX7_init_5 rfl ?_
  refine v_newI C (32) (List.mem_of_getElem? (i := 4) rfl) (by omega) (by omega) (by dsimp only; omega) (by dsimp only; omega) dX7_init_8 (fun a8 ha8 => ?_)
  refine v_fresh ha8 (fun w h8 hF9 hE9 => ?_)
  have h1 := hF9 _ _ _ (fun h9 => h9) h1
  have hF := hF.tr (hF9.mono (fun t h9 => h9.elim))
  refine v_putX C p7 h1 rfl rfl (Nat.le_of_ble_eq_true rfl) dX7_init_10 ?_
  refine v_upd h1 (fun w h1 hF9 hE9 => ?_)
  have h8 := hF9 _ _ _ (fun h9 => by have h8 : 32 = 30 := h9; omega) h8
  have hF := hF.tr (hF9.mono (fun t h9 => by have h8 : t = 30 := h9; show 30 ≤ t ∧ t < 70; omega))
  refine v_aload_n C dX7_init_13 rfl ?_
  refine v_sipush C dX7_init_14 rfl ?_
  refine v_newI C (34) (List.mem_of_getElem? (i := 4) rfl) (by omega) (by omega) (by dsimp only; omega) (by dsimp only; omega) dX7_init_17 (fun a17 ha17 => ?_)
  refine v_fresh ha17 (fun w h17 hF9 hE9 => ?_)
  have h1 := hF9 _ _ _ (fun h9 => h9) h1
  have h8 := hF9 _ _ _ (fun h9 => h9) h8
  have hF := hF.tr (hF9.mono (fun t h9 => h9.elim))
  refine v_putX C p13 h1 rfl rfl (Nat.le_of_ble_eq_true rfl) dX7_init_19 ?_
  refine v_upd h1 (fun w h1 hF9 hE9 => ?_)
  have h8 := hF9 _ _ _ (fun h9 => by have h8 : 32 = 30 := h9; omega) h8
  have h17 := hF9 _ _ _ (fun h9 => by have h8 : 34 = 30 := h9; omega) h17
  have hF := hF.tr (hF9.mono (fun t h9 => by have h8 : t = 30 := h9; show 30 ≤ t ∧ t < 70; omega))
  refine v_aload_n C dX7_init_22 rfl ?_
  refine v_sipush C dX7_init_23 rfl ?_
  refine v_newI C (35) (List.mem_of_getElem? (i := 4) rfl) (by omega) (by omega) (by dsimp only; omega) (by dsimp only; omega) dX7_init_26 (fun a26 ha26 => ?_)
  refine v_fresh ha26 (fun w h26 hF9 hE9 => ?_)
  have h1 := hF9 _ _ _ (fun h9 => h9) h1
  have h8 := hF9 _ _ _ (fun h9 => h9) h8
  have h17 := hF9 _ _ _ (fun h9 => h9) h17
  have hF := hF.tr (hF9.mono (fun t h9 => h9.elim))
  refine v_putX C p16 h1 rfl rfl (Nat.le_of_ble_eq_true rfl) dX7_init_28 ?_
  refine v_upd h1 (fun w h1 hF9 hE9 => ?_)
  have h8 := hF9 _ _ _ (fun h9 => by have h8 : 32 = 30 := h9; omega) h8
  have h17 := hF9 _ _ _ (fun h9 => by have h8 : 34 = 30 := h9; omega) h17
  have h26 := hF9 _ _ _ (fun h9 => by have h8 : 35 = 30 := h9; omega) h26
  have hF := hF.tr (hF9.mono (fun t h9 => by have h8 : t = 30 := h9; show 30 ≤ t ∧ t < 70; omega))
  refine v_aload_n C dX7_init_31 rfl ?_
  refine v_sipush C dX7_init_32 rfl ?_
  refine v_newJ C (40) (List.mem_of_getElem? (i := 8) rfl) (by omega) (by omega) (by dsimp only; omega) (by dsimp only; omega) dX7_init_35 (fun a35 ha35 => ?_)
  refine v_fresh ha35 (fun w h35 hF9 hE9 => ?_)
  have h1 := hF9 _ _ _ (fun h9 => h9) h1
  have h8 := hF9 _ _ _ (fun h9 => h9) h8
  have h17 := hF9 _ _ _ (fun h9 => h9) h17
  have h26 := hF9 _ _ _ (fun h9 => h9) h26
  have hF := hF.tr (hF9.mono (fun t h9 => h9.elim))
  refine v_putX C p19 h1 rfl rfl (Nat.le_of_ble_eq_true rfl) dX7_init_37 ?_
  refine v_upd h1 (fun w h1 hF9 hE9 => ?_)
  have h8 := hF9 _ _ _ (fun h9 => by have h8 : 32 = 30 := h9; omega) h8
  have h17 := hF9 _ _ _ (fun h9 => by have h8 : 34 = 30 := h9; omega) h17
  have h26 := hF9 _ _ _ (fun h9 => by have h8 : 35 = 30 := h9; omega) h26
  have h35 := hF9 _ _ _ (fun h9 => by have h8 : 40 = 30 := h9; omega) h35
  have hF := hF.tr (hF9.mono (fun t h9 => by have h8 : t = 30 := h9; show 30 ≤ t ∧ t < 70; omega))
  refine v_aload_n C dX7_init_40 rfl ?_
  refine v_sipush C dX7_init_41 rfl ?_
  refine v_newJ C (41) (List.mem_of_getElem? (i := 8) rfl) (by omega) (by omega) (by dsimp only; omega) (by dsimp only; omega) dX7_init_44 (fun a44 ha44 => ?_)
  refine v_fresh ha44 (fun w h44 hF9 hE9 => ?_)
  have h1 := hF9 _ _ _ (fun h9 => h9) h1
  have h8 := hF9 _ _ _ (fun h9 => h9) h8
  have h17 := hF9 _ _ _ (fun h9 => h9) h17
  have h26 := hF9 _ _ _ (fun h9 => h9) h26
  have h35 := hF9 _ _ _ (fun h9 => h9) h35
  have hF := hF.tr (hF9.mono (fun t h9 => h9.elim))
  refine v_putX C p23 h1 rfl rfl (Nat.le_of_ble_eq_true rfl) dX7_init_46 ?_
  refine v_upd h1 (fun w h1 hF9 hE9 => ?_)
  have h8 := hF9 _ _ _ (fun h9 => by have h8 : 32 = 30 := h9; omega) h8
  have h17 := hF9 _ _ _ (fun h9 => by have h8 : 34 = 30 := h9; omega) h17
  have h26 := hF9 _ _ _ (fun h9 => by have h8 : 35 = 30 := h9; omega) h26
  have h35 := hF9 _ _ _ (fun h9 => by have h8 : 40 = 30 := h9; omega) h35
  have h44 := hF9 _ _ _ (fun h9 => by have h8 : 41 = 30 := h9; omega) h44
  have hF := hF.tr (hF9.mono (fun t h9 => by have h8 : t = 30 := h9; show 30 ≤ t ∧ t < 70; omega))
  refine v_aload_n C dX7_init_49 rfl ?_
  refine v_sipush C dX7_init_50 rfl ?_
  refine v_newI C (42) (List.mem_of_getElem? (i := 4) rfl) (by omega) (by omega) (by dsimp only; omega) (by dsimp only; omega) dX7_init_53 (fun a53 ha53 => ?_)
  refine v_fresh ha53 (fun w h53 hF9 hE9 => ?_)
  have h1 := hF9 _ _ _ (fun h9 => h9) h1
  have h8 := hF9 _ _ _ (fun h9 => h9) h8
  have h17 := hF9 _ _ _ (fun h9 => h9) h17
  have h26 := hF9 _ _ _ (fun h9 => h9) h26
  have h35 := hF9 _ _ _ (fun h9 => h9) h35
  have h44 := hF9 _ _ _ (fun h9 => h9) h44
  have hF := hF.tr (hF9.mono (fun t h9 => h9.elim))
  refine v_putX C p26 h1 rfl rfl (Nat.le_of_ble_eq_true rfl) dX7_init_55 ?_
  refine v_upd h1 (fun w h1 hF9 hE9 => ?_)
  have h8 := hF9 _ _ _ (fun h9 => by have h8 : 32 = 30 := h9; omega) h8
  have h17 := hF9 _ _ _ (fun h9 => by have h8 : 34 = 30 := h9; omega) h17
  have h26 := hF9 _ _ _ (fun h9 => by have h8 : 35 = 30 := h9; omega) h26
  have h35 := hF9 _ _ _ (fun h9 => by have h8 : 40 = 30 := h9; omega) h35
  have h44 := hF9 _ _ _ (fun h9 => by have h8 : 41 = 30 := h9; omega) h44
  have h53 := hF9 _ _ _ (fun h9 => by have h8 : 42 = 30 := h9; omega) h53
  have hF := hF.tr (hF9.mono (fun t h9 => by have h8 : t = 30 := h9; show 30 ≤ t ∧ t < 70; omega))
  refine v_aload_n C dX7_init_58 rfl ?_
  refine v_sipush C dX7_init_59 rfl ?_
  refine v_newI C (44) (List.mem_of_getElem? (i := 4) rfl) (by omega) (by omega) (by dsimp only; omega) (by dsimp only; omega) dX7_init_62 (fun a62 ha62 => ?_)
  refine v_fresh ha62 (fun w h62 hF9 hE9 => ?_)
  have h1 := hF9 _ _ _ (fun h9 => h9) h1
  have h8 := hF9 _ _ _ (fun h9 => h9) h8
  have h17 := hF9 _ _ _ (fun h9 => h9) h17
  have h26 := hF9 _ _ _ (fun h9 => h9) h26
  have h35 := hF9 _ _ _ (fun h9 => h9) h35
  have h44 := hF9 _ _ _ (fun h9 => h9) h44
  have h53 := hF9 _ _ _ (fun h9 => h9) h53
  have hF := hF.tr (hF9.mono (fun t h9 => h9.elim))
  refine v_putX C p29 h1 rfl rfl (Nat.le_of_ble_eq_true rfl) dX7_init_64 ?_
  refine v_upd h1 (fun w h1 hF9 hE9 => ?_)
  have h8 := hF9 _ _ _ (fun h9 => by have h8 : 32 = 30 := h9; omega) h8
  have h17 := hF9 _ _ _ (fun h9 => by have h8 : 34 = 30 := h9; omega) h17
  have h26 := hF9 _ _ _ (fun h9 => by have h8 : 35 = 30 := h9; omega) h26
  have h35 := hF9 _ _ _ (fun h9 => by have h8 : 40 = 30 := h9; omega) h35
  have h44 := hF9 _ _ _ (fun h9 => by have h8 : 41 = 30 := h9; omega) h44
  have h53 := hF9 _ _ _ (fun h9 => by have h8 : 42 = 30 := h9; omega) h53
  have h62 := hF9 _ _ _ (fun h9 => by have h8 : 44 = 30 := h9; omega) h62
  have hF := hF.tr (hF9.mono (fun t h9 => by have h8 : t = 30 := h9; show 30 ≤ t ∧ t < 70; omega))
  refine v_aload_n C dX7_init_67 rfl ?_
  refine v_sipush C dX7_init_68 rfl ?_
  refine v_newI C (45) (List.mem_of_getElem? (i := 4) rfl) (by omega) (by omega) (by dsimp only; omega) (by dsimp only; omega) dX7_init_71 (fun a71 ha71 => ?_)
  refine v_fresh ha71 (fun w h71 hF9 hE9 => ?_)
  have h1 := hF9 _ _ _ (fun h9 => h9) h1
  have h8 := hF9 _ _ _ (fun h9 => h9) h8
  have h17 := hF9 _ _ _ (fun h9 => h9) h17
  have h26 := hF9 _ _ _ (fun h9 => h9) h26
  have h35 := hF9 _ _ _ (fun h9 => h9) h35
  have h44 := hF9 _ _ _ (fun h9 => h9) h44
  have h53 := hF9 _ _ _ (fun h9 => h9) h53
  have h62 := hF9 _ _ _ (fun h9 => h9) h62
  have hF := hF.tr (hF9.mono (fun t h9 => h9.elim))
  refine v_putX C p32 h1 rfl rfl (Nat.le_of_ble_eq_true rfl) dX7_init_73 ?_
  refine v_upd h1 (fun w h1 hF9 hE9 => ?_)
  have h8 := hF9 _ _ _ (fun h9 => by have h8 : 32 = 30 := h9; omega) h8
  have h17 := hF9 _ _ _ (fun h9 => by have h8 : 34 = 30 := h9; omega) h17
  have h26 := hF9 _ _ _ (fun h9 => by have h8 : 35 = 30 := h9; omega) h26
  have h35 := hF9 _ _ _ (fun h9 => by have h8 : 40 = 30 := h9; omega) h35
  have h44 := hF9 _ _ _ (fun h9 => by have h8 : 41 = 30 := h9; omega) h44
  have h53 := hF9 _ _ _ (fun h9 => by have h8 : 42 = 30 := h9; omega) h53
  have h62 := hF9 _ _ _ (fun h9 => by have h8 : 44 = 30 := h9; omega) h62
  have h71 := hF9 _ _ _ (fun h9 => by have h8 : 45 = 30 := h9; omega) h71
  have hF := hF.tr (hF9.mono (fun t h9 => by have h8 : t = 30 := h9; show 30 ≤ t ∧ t < 70; omega))
  refine v_aload_n C dX7_init_76 rfl ?_
  refine v_sipush C dX7_init_77 rfl ?_
  refine v_newI C (46) (List.mem_of_getElem? (i := 4) rfl) (by omega) (by omega) (by dsimp only; omega) (by dsimp only; omega) dX7_init_80 (fun a80 ha80 => ?_)
  refine v_fresh ha80 (fun w h80 hF9 hE9 => ?_)
  have h1 := hF9 _ _ _ (fun h9 => h9) h1
  have h8 := hF9 _ _ _ (fun h9 => h9) h8
  have h17 := hF9 _ _ _ (fun h9 => h9) h17
  have h26 := hF9 _ _ _ (fun h9 => h9) h26
  have h35 := hF9 _ _ _ (fun h9 => h9) h35
  have h44 := hF9 _ _ _ (fun h9 => h9) h44
  have h53 := hF9 _ _ _ (fun h9 => h9) h53
  have h62 := hF9 _ _ _ (fun h9 => h9) h62
  have h71 := hF9 _ _ _ (fun h9 => h9) h71
  have hF := hF.tr (hF9.mono (fun t h9 => h9.elim))
  refine v_putX C p35 h1 rfl rfl (Nat.le_of_ble_eq_true rfl) dX7_init_82 ?_
  refine v_upd h1 (fun w h1 hF9 hE9 => ?_)
  have h8 := hF9 _ _ _ (fun h9 => by have h8 : 32 = 30 := h9; omega) h8
  have h17 := hF9 _ _ _ (fun h9 => by have h8 : 34 = 30 := h9; omega) h17
  have h26 := hF9 _ _ _ (fun h9 => by have h8 : 35 = 30 := h9; omega) h26
  have h35 := hF9 _ _ _ (fun h9 => by have h8 : 40 = 30 := h9; omega) h35
  have h44 := hF9 _ _ _ (fun h9 => by have h8 : 41 = 30 := h9; omega) h44
  have h53 := hF9 _ _ _ (fun h9 => by have h8 : 42 = 30 := h9; omega) h53
  have h62 := hF9 _ _ _ (fun h9 => by have h8 : 44 = 30 := h9; omega) h62
  have h71 := hF9 _ _ _ (fun h9 => by have h8 : 45 = 30 := h9; omega) h71
  have h80 := hF9 _ _ _ (fun h9 => by have h8 : 46 = 30 := h9; omega) h80
  have hF := hF.tr (hF9.mono (fun t h9 => by have h8 : t = 30 := h9; show 30 ≤ t ∧ t < 70; omega))
  refine v_aload_n C dX7_init_85 rfl ?_
  refine v_sipush C dX7_init_86 rfl ?_
  refine v_newI C (47) (List.mem_of_getElem? (i := 4) rfl) (by omega) (by omega) (by dsimp only; omega) (by dsimp only; omega) dX7_init_89 (fun a89 ha89 => ?_)
  refine v_fresh ha89 (fun w h89 hF9 hE9 => ?_)
  have h1 := hF9 _ _ _ (fun h9 => h9) h1
  have h8 := hF9 _ _ _ (fun h9 => h9) h8
  have h17 := hF9 _ _ _ (fun h9 => h9) h17
  have h26 := hF9 _ _ _ (fun h9 => h9) h26
  have h35 := hF9 _ _ _ (fun h9 => h9) h35
  have h44 := hF9 _ _ _ (fun h9 => h9) h44
  have h53 := hF9 _ _ _ (fun h9 => h9) h53
  have h62 := hF9 _ _ _ (fun h9 => h9) h62
  have h71 := hF9 _ _ _ (fun h9 => h9) h71
  have h80 := hF9 _ _ _ (fun h9 => h9) h80
  have hF := hF.tr (hF9.mono (fun t h9 => h9.elim))
  refine v_putX C p38 h1 rfl rfl (Nat.le_of_ble_eq_true rfl) dX7_init_91 ?_
  refine v_upd h1 (fun w h1 hF9 hE9 => ?_)
  have h8 := hF9 _ _ _ (fun h9 => by have h8 : 32 = 30 := h9; omega) h8
  have h17 := hF9 _ _ _ (fun h9 => by have h8 : 34 = 30 := h9; omega) h17
  have h26 := hF9 _ _ _ (fun h9 => by have h8 : 35 = 30 := h9; omega) h26
  have h35 := hF9 _ _ _ (fun h9 => by have h8 : 40 = 30 := h9; omega) h35
  have h44 := hF9 _ _ _ (fun h9 => by have h8 : 41 = 30 := h9; omega) h44
  have h53 := hF9 _ _ _ (fun h9 => by have h8 : 42 = 30 := h9; omega) h53
  have h62 := hF9 _ _ _ (fun h9 => by have h8 : 44 = 30 := h9; omega) h62
  have h71 := hF9 _ _ _ (fun h9 => by have h8 : 45 = 30 := h9; omega) h71
  have h80 := hF9 _ _ _ (fun h9 => by have h8 : 46 = 30 := h9; omega) h80
  have h89 := hF9 _ _ _ (fun h9 => by have h8 : 47 = 30 := h9; omega) h89
  have hF := hF.tr (hF9.mono (fun t h9 => by have h8 : t = 30 := h9; show 30 ≤ t ∧ t < 70; omega))
  refine v_aload_n C dX7_init_94 rfl ?_
  refine v_ldcI C (v := 60000) (List.mem_of_getElem? (i := 16) rfl) (by decide +kernel) dX7_init_95 ?_
  refine v_newI C (49) (List.mem_of_getElem? (i := 4) rfl) (by omega) (by omega) (by dsimp only; omega) (by dsimp only; omega) dX7_init_97 (fun a97 ha97 => ?_)
  refine v_fresh ha97 (fun w h97 hF9 hE9 => ?_)
  have h1 := hF9 _ _ _ (fun h9 => h9) h1
  have h8 := hF9 _ _ _ (fun h9 => h9) h8
  have h17 := hF9 _ _ _ (fun h9 => h9) h17
  have h26 := hF9 _ _ _ (fun h9 => h9) h26
  have h35 := hF9 _ _ _ (fun h9 => h9) h35
  have h44 := hF9 _ _ _ (fun h9 => h9) h44
  have h53 := hF9 _ _ _ (fun h9 => h9) h53
  have h62 := hF9 _ _ _ (fun h9 => h9) h62
  have h71 := hF9 _ _ _ (fun h9 => h9) h71
  have h80 := hF9 _ _ _ (fun h9 => h9) h80
  have h89 := hF9 _ _ _ (fun h9 => h9) h89
  have hF := hF.tr (hF9.mono (fun t h9 => h9.elim))
  refine v_putX C p42 h1 rfl rfl (Nat.le_of_ble_eq_true rfl) dX7_init_99 ?_
  refine v_upd h1 (fun w h1 hF9 hE9 => ?_)
  have h8 := hF9 _ _ _ (fun h9 => by have h8 : 32 = 30 := h9; omega) h8
  have h17 := hF9 _ _ _ (fun h9 => by have h8 : 34 = 30 := h9; omega) h17
  have h26 := hF9 _ _ _ (fun h9 => by have h8 : 35 = 30 := h9; omega) h26
  have h35 := hF9 _ _ _ (fun h9 => by have h8 : 40 = 30 := h9; omega) h35
  have h44 := hF9 _ _ _ (fun h9 => by have h8 : 41 = 30 := h9; omega) h44
  have h53 := hF9 _ _ _ (fun h9 => by have h8 : 42 = 30 := h9; omega) h53
  have h62 := hF9 _ _ _ (fun h9 => by have h8 : 44 = 30 := h9; omega) h62
  have h71 := hF9 _ _ _ (fun h9 => by have h8 : 45 = 30 := h9; omega) h71
  have h80 := hF9 _ _ _ (fun h9 => by have h8 : 46 = 30 := h9; omega) h80
  have h89 := hF9 _ _ _ (fun h9 => by have h8 : 47 = 30 := h9; omega) h89
  have h97 := hF9 _ _ _ (fun h9 => by have h8 : 49 = 30 := h9; omega) h97
  have hF := hF.tr (hF9.mono (fun t h9 => by have h8 : t = 30 := h9; show 30 ≤ t ∧ t < 70; omega))
  refine v_aload_n C dX7_init_102 rfl ?_
  refine v_ldcI C (v := 60000) (List.mem_of_getElem? (i := 16) rfl) (by decide +kernel) dX7_init_103 ?_
  refine v_newI C (51) (List.mem_of_getElem? (i := 4) rfl) (by omega) (by omega) (by dsimp only; omega) (by dsimp only; omega) dX7_init_105 (fun a105 ha105 => ?_)
  refine v_fresh ha105 (fun w h105 hF9 hE9 => ?_)
  have h1 := hF9 _ _ _ (fun h9 => h9) h1
  have h8 := hF9 _ _ _ (fun h9 => h9) h8
  have h17 := hF9 _ _ _ (fun h9 => h9) h17
  have h26 := hF9 _ _ _ (fun h9 => h9) h26
  have h35 := hF9 _ _ _ (fun h9 => h9) h35
  have h44 := hF9 _ _ _ (fun h9 => h9) h44
  have h53 := hF9 _ _ _ (fun h9 => h9) h53
  have h62 := hF9 _ _ _ (fun h9 => h9) h62
  have h71 := hF9 _ _ _ (fun h9 => h9) h71
  have h80 := hF9 _ _ _ (fun h9 => h9) h80
  have h89 := hF9 _ _ _ (fun h9 => h9) h89
  have h97 := hF9 _ _ _ (fun h9 => h9) h97
  have hF := hF.tr (hF9.mono (fun t h9 => h9.elim))
  refine v_putX C p45 h1 rfl rfl (Nat.le_of_ble_eq_true rfl) dX7_init_107 ?_
  refine v_upd h1 (fun w h1 hF9 hE9 => ?_)
  have h8 := hF9 _ _ _ (fun h9 => by have h8 : 32 = 30 := h9; omega) h8
  have h17 := hF9 _ _ _ (fun h9 => by have h8 : 34 = 30 := h9; omega) h17
  have h26 := hF9 _ _ _ (fun h9 => by have h8 : 35 = 30 := h9; omega) h26
  have h35 := hF9 _ _ _ (fun h9 => by have h8 : 40 = 30 := h9; omega) h35
  have h44 := hF9 _ _ _ (fun h9 => by have h8 : 41 = 30 := h9; omega) h44
  have h53 := hF9 _ _ _ (fun h9 => by have h8 : 42 = 30 := h9; omega) h53
  have h62 := hF9 _ _ _ (fun h9 => by have h8 : 44 = 30 := h9; omega) h62
  have h71 := hF9 _ _ _ (fun h9 => by have h8 : 45 = 30 := h9; omega) h71
  have h80 := hF9 _ _ _ (fun h9 => by have h8 : 46 = 30 := h9; omega) h80
  have h89 := hF9 _ _ _ (fun h9 => by have h8 : 47 = 30 := h9; omega) h89
  have h97 := hF9 _ _ _ (fun h9 => by have h8 : 49 = 30 := h9; omega) h97
  have h105 := hF9 _ _ _ (fun h9 => by have h8 : 51 = 30 := h9; omega) h105
  have hF := hF.tr (hF9.mono (fun t h9 => by have h8 : t = 30 := h9; show 30 ≤ t ∧ t < 70; omega))
  refine v_aload_n C dX7_init_110 rfl ?_
  refine v_sipush C dX7_init_111 rfl ?_
  refine v_newI C (56) (List.mem_of_getElem? (i := 4) rfl) (by omega) (by omega) (by dsimp only; omega) (by dsimp only; omega) dX7_init_114 (fun a114 ha114 => ?_)
  refine v_fresh ha114 (fun w h114 hF9 hE9 => ?_)
  have h1 := hF9 _ _ _ (fun h9 => h9) h1
  have h8 := hF9 _ _ _ (fun h9 => h9) h8
  have h17 := hF9 _ _ _ (fun h9 => h9) h17
  have h26 := hF9 _ _ _ (fun h9 => h9) h26
  have h35 := hF9 _ _ _ (fun h9 => h9) h35
  have h44 := hF9 _ _ _ (fun h9 => h9) h44
  have h53 := hF9 _ _ _ (fun h9 => h9) h53
  have h62 := hF9 _ _ _ (fun h9 => h9) h62
  have h71 := hF9 _ _ _ (fun h9 => h9) h71
  have h80 := hF9 _ _ _ (fun h9 => h9) h80
  have h89 := hF9 _ _ _ (fun h9 => h9) h89
  have h97 := hF9 _ _ _ (fun h9 => h9) h97
  have h105 := hF9 _ _ _ (fun h9 => h9) h105
  have hF := hF.tr (hF9.mono (fun t h9 => h9.elim))
  refine v_putX C p48 h1 rfl rfl (Nat.le_of_ble_eq_true rfl) dX7_init_116 ?_
  refine v_upd h1 (fun w h1 hF9 hE9 => ?_)
  have h8 := hF9 _ _ _ (fun h9 => by have h8 : 32 = 30 := h9; omega) h8
  have h17 := hF9 _ _ _ (fun h9 => by have h8 : 34 = 30 := h9; omega) h17
  have h26 := hF9 _ _ _ (fun h9 => by have h8 : 35 = 30 := h9; omega) h26
  have h35 := hF9 _ _ _ (fun h9 => by have h8 : 40 = 30 := h9; omega) h35
  have h44 := hF9 _ _ _ (fun h9 => by have h8 : 41 = 30 := h9; omega) h44
  have h53 := hF9 _ _ _ (fun h9 => by have h8 : 42 = 30 := h9; omega) h53
  have h62 := hF9 _ _ _ (fun h9 => by have h8 : 44 = 30 := h9; omega) h62
  have h71 := hF9 _ _ _ (fun h9 => by have h8 : 45 = 30 := h9; omega) h71
  have h80 := hF9 _ _ _ (fun h9 => by have h8 : 46 = 30 := h9; omega) h80
  have h89 := hF9 _ _ _ (fun h9 => by have h8 : 47 = 30 := h9; omega) h89
  have h97 := hF9 _ _ _ (fun h9 => by have h8 : 49 = 30 := h9; omega) h97
  have h105 := hF9 _ _ _ (fun h9 => by have h8 : 51 = 30 := h9; omega) h105
  have h114 := hF9 _ _ _ (fun h9 => by have h8 : 56 = 30 := h9; omega) h114
  have hF := hF.tr (hF9.mono (fun t h9 => by have h8 : t = 30 := h9; show 30 ≤ t ∧ t < 70; omega))
  refine v_aload_n C dX7_init_119 rfl ?_
  refine v_sipush C dX7_init_120 rfl ?_
  refine v_newJ C (57) (List.mem_of_getElem? (i := 8) rfl) (by omega) (by omega) (by dsimp only; omega) (by dsimp only; omega) dX7_init_123 (fun a123 ha123 => ?_)
  refine v_fresh ha123 (fun w h123 hF9 hE9 => ?_)
  have h1 := hF9 _ _ _ (fun h9 => h9) h1
  have h8 := hF9 _ _ _ (fun h9 => h9) h8
  have h17 := hF9 _ _ _ (fun h9 => h9) h17
  have h26 := hF9 _ _ _ (fun h9 => h9) h26
  have h35 := hF9 _ _ _ (fun h9 => h9) h35
  have h44 := hF9 _ _ _ (fun h9 => h9) h44
  have h53 := hF9 _ _ _ (fun h9 => h9) h53
  have h62 := hF9 _ _ _ (fun h9 => h9) h62
  have h71 := hF9 _ _ _ (fun h9 => h9) h71
  have h80 := hF9 _ _ _ (fun h9 => h9) h80
  have h89 := hF9 _ _ _ (fun h9 => h9) h89
  have h97 := hF9 _ _ _ (fun h9 => h9) h97
  have h105 := hF9 _ _ _ (fun h9 => h9) h105
  have h114 := hF9 _ _ _ (fun h9 => h9) h114
  have hF := hF.tr (hF9.mono (fun t h9 => h9.elim))
  refine v_putX C p51 h1 rfl rfl (Nat.le_of_ble_eq_true rfl) dX7_init_125 ?_
  refine v_upd h1 (fun w h1 hF9 hE9 => ?_)
  have h8 := hF9 _ _ _ (fun h9 => by have h8 : 32 = 30 := h9; omega) h8
  have h17 := hF9 _ _ _ (fun h9 => by have h8 : 34 = 30 := h9; omega) h17
  have h26 := hF9 _ _ _ (fun h9 => by have h8 : 35 = 30 := h9; omega) h26
  have h35 := hF9 _ _ _ (fun h9 => by have h8 : 40 = 30 := h9; omega) h35
  have h44 := hF9 _ _ _ (fun h9 => by have h8 : 41 = 30 := h9; omega) h44
  have h53 := hF9 _ _ _ (fun h9 => by have h8 : 42 = 30 := h9; omega) h53
  have h62 := hF9 _ _ _ (fun h9 => by have h8 : 44 = 30 := h9; omega) h62
  have h71 := hF9 _ _ _ (fun h9 => by have h8 : 45 = 30 := h9; omega) h71
  have h80 := hF9 _ _ _ (fun h9 => by have h8 : 46 = 30 := h9; omega) h80
  have h89 := hF9 _ _ _ (fun h9 => by have h8 : 47 = 30 := h9; omega) h89
  have h97 := hF9 _ _ _ (fun h9 => by have h8 : 49 = 30 := h9; omega) h97
  have h105 := hF9 _ _ _ (fun h9 => by have h8 : 51 = 30 := h9; omega) h105
  have h114 := hF9 _ _ _ (fun h9 => by have h8 : 56 = 30 := h9; omega) h114
  have h123 := hF9 _ _ _ (fun h9 => by have h8 : 57 = 30 := h9; omega) h123
  have hF := hF.tr (hF9.mono (fun t h9 => by have h8 : t = 30 := h9; show 30 ≤ t ∧ t < 70; omega))
  refine v_aload_n C dX7_init_128 rfl ?_
  refine v_sipush C dX7_init_129 rfl ?_
  refine v_newJ C (58) (List.mem_of_getElem? (i := 8) rfl) (by omega) (by omega) (by dsimp only; omega) (by dsimp only; omega) dX7_init_132 (fun a132 ha132 => ?_)
  refine v_fresh ha132 (fun w h132 hF9 hE9 => ?_)
  have h1 := hF9 _ _ _ (fun h9 => h9) h1
  have h8 := hF9 _ _ _ (fun h9 => h9) h8
  have h17 := hF9 _ _ _ (fun h9 => h9) h17
  have h26 := hF9 _ _ _ (fun h9 => h9) h26
  have h35 := hF9 _ _ _ (fun h9 => h9) h35
  have h44 := hF9 _ _ _ (fun h9 => h9) h44
  have h53 := hF9 _ _ _ (fun h9 => h9) h53
  have h62 := hF9 _ _ _ (fun h9 => h9) h62
  have h71 := hF9 _ _ _ (fun h9 => h9) h71
  have h80 := hF9 _ _ _ (fun h9 => h9) h80
  have h89 := hF9 _ _ _ (fun h9 => h9) h89
  have h97 := hF9 _ _ _ (fun h9 => h9) h97
  have h105 := hF9 _ _ _ (fun h9 => h9) h105
  have h114 := hF9 _ _ _ (fun h9 => h9) h114
  have h123 := hF9 _ _ _ (fun h9 => h9) h123
  have hF := hF.tr (hF9.mono (fun t h9 => h9.elim))
  refine v_putX C p54 h1 rfl rfl (Nat.le_of_ble_eq_true rfl) dX7_init_134 ?_
  refine v_upd h1 (fun w h1 hF9 hE9 => ?_)
  have h8 := hF9 _ _ _ (fun h9 => by have h8 : 32 = 30 := h9; omega) h8
  have h17 := hF9 _ _ _ (fun h9 => by have h8 : 34 = 30 := h9; omega) h17
  have h26 := hF9 _ _ _ (fun h9 => by have h8 : 35 = 30 := h9; omega) h26
  have h35 := hF9 _ _ _ (fun h9 => by have h8 : 40 = 30 := h9; omega) h35
  have h44 := hF9 _ _ _ (fun h9 => by have h8 : 41 = 30 := h9; omega) h44
  have h53 := hF9 _ _ _ (fun h9 => by have h8 : 42 = 30 := h9; omega) h53
  have h62 := hF9 _ _ _ (fun h9 => by have h8 : 44 = 30 := h9; omega) h62
  have h71 := hF9 _ _ _ (fun h9 => by have h8 : 45 = 30 := h9; omega) h71
  have h80 := hF9 _ _ _ (fun h9 => by have h8 : 46 = 30 := h9; omega) h80
  have h89 := hF9 _ _ _ (fun h9 => by have h8 : 47 = 30 := h9; omega) h89
  have h97 := hF9 _ _ _ (fun h9 => by have h8 : 49 = 30 := h9; omega) h97
  have h105 := hF9 _ _ _ (fun h9 => by have h8 : 51 = 30 := h9; omega) h105
  have h114 := hF9 _ _ _ (fun h9 => by have h8 : 56 = 30 := h9; omega) h114
  have h123 := hF9 _ _ _ (fun h9 => by have h8 : 57 = 30 := h9; omega) h123
  have h132 := hF9 _ _ _ (fun h9 => by have h8 : 58 = 30 := h9; omega) h132
  have hF := hF.tr (hF9.mono (fun t h9 => by have h8 : t = 30 := h9; show 30 ≤ t ∧ t < 70; omega))
  refine v_aload_n C dX7_init_137 rfl ?_
  refine v_sipush C dX7_init_138 rfl ?_
  refine v_newI C (59) (List.mem_of_getElem? (i := 4) rfl) (by omega) (by omega) (by dsimp only; omega) (by dsimp only; omega) dX7_init_141 (fun a141 ha141 => ?_)
  refine v_fresh ha141 (fun w h141 hF9 hE9 => ?_)
  have h1 := hF9 _ _ _ (fun h9 => h9) h1
  have h8 := hF9 _ _ _ (fun h9 => h9) h8
  have h17 := hF9 _ _ _ (fun h9 => h9) h17
  have h26 := hF9 _ _ _ (fun h9 => h9) h26
  have h35 := hF9 _ _ _ (fun h9 => h9) h35
  have h44 := hF9 _ _ _ (fun h9 => h9) h44
  have h53 := hF9 _ _ _ (fun h9 => h9) h53
  have h62 := hF9 _ _ _ (fun h9 => h9) h62
  have h71 := hF9 _ _ _ (fun h9 => h9) h71
  have h80 := hF9 _ _ _ (fun h9 => h9) h80
  have h89 := hF9 _ _ _ (fun h9 => h9) h89
  have h97 := hF9 _ _ _ (fun h9 => h9) h97
  have h105 := hF9 _ _ _ (fun h9 => h9) h105
  have h114 := hF9 _ _ _ (fun h9 => h9) h114
  have h123 := hF9 _ _ _ (fun h9 => h9) h123
  have h132 := hF9 _ _ _ (fun h9 => h9) h132
  have hF := hF.tr (hF9.mono (fun t h9 => h9.elim))
  refine v_putX C p57 h1 rfl rfl (Nat.le_of_ble_eq_true rfl) dX7_init_143 ?_
  refine v_upd h1 (fun w h1 hF9 hE9 => ?_)
  have h8 := hF9 _ _ _ (fun h9 => by have h8 : 32 = 30 := h9; omega) h8
  have h17 := hF9 _ _ _ (fun h9 => by have h8 : 34 = 30 := h9; omega) h17
  have h26 := hF9 _ _ _ (fun h9 => by have h8 : 35 = 30 := h9; omega) h26
  have h35 := hF9 _ _ _ (fun h9 => by have h8 : 40 = 30 := h9; omega) h35
  have h44 := hF9 _ _ _ (fun h9 => by have h8 : 41 = 30 := h9; omega) h44
  have h53 := hF9 _ _ _ (fun h9 => by have h8 : 42 = 30 := h9; omega) h53
  have h62 := hF9 _ _ _ (fun h9 => by have h8 : 44 = 30 := h9; omega) h62
  have h71 := hF9 _ _ _ (fun h9 => by have h8 : 45 = 30 := h9; omega) h71
  have h80 := hF9 _ _ _ (fun h9 => by have h8 : 46 = 30 := h9; omega) h80
  have h89 := hF9 _ _ _ (fun h9 => by have h8 : 47 = 30 := h9; omega) h89
  have h97 := hF9 _ _ _ (fun h9 => by have h8 : 49 = 30 := h9; omega) h97
  have h105 := hF9 _ _ _ (fun h9 => by have h8 : 51 = 30 := h9; omega) h105
  have h114 := hF9 _ _ _ (fun h9 => by have h8 : 56 = 30 := h9; omega) h114
  have h123 := hF9 _ _ _ (fun h9 => by have h8 : 57 = 30 := h9; omega) h123
  have h132 := hF9 _ _ _ (fun h9 => by have h8 : 58 = 30 := h9; omega) h132
  have h141 := hF9 _ _ _ (fun h9 => by have h8 : 59 = 30 := h9; omega) h141
  have hF := hF.tr (hF9.mono (fun t h9 => by have h8 : t = 30 := h9; show 30 ≤ t ∧ t < 70; omega))
  refine v_aload_n C dX7_init_146 rfl ?_
  refine v_sipush C dX7_init_147 rfl ?_
  refine v_newI C (61) (List.mem_of_getElem? (i := 4) rfl) (by omega) (by omega) (by dsimp only; omega) (by dsimp only; omega) dX7_init_150 (fun a150 ha150 => ?_)
  refine v_fresh ha150 (fun w h150 hF9 hE9 => ?_)
  have h1 := hF9 _ _ _ (fun h9 => h9) h1
  have h8 := hF9 _ _ _ (fun h9 => h9) h8
  have h17 := hF9 _ _ _ (fun h9 => h9) h17
  have h26 := hF9 _ _ _ (fun h9 => h9) h26
  have h35 := hF9 _ _ _ (fun h9 => h9) h35
  have h44 := hF9 _ _ _ (fun h9 => h9) h44
  have h53 := hF9 _ _ _ (fun h9 => h9) h53
  have h62 := hF9 _ _ _ (fun h9 => h9) h62
  have h71 := hF9 _ _ _ (fun h9 => h9) h71
  have h80 := hF9 _ _ _ (fun h9 => h9) h80
  have h89 := hF9 _ _ _ (fun h9 => h9) h89
  have h97 := hF9 _ _ _ (fun h9 => h9) h97
  have h105 := hF9 _ _ _ (fun h9 => h9) h105
  have h114 := hF9 _ _ _ (fun h9 => h9) h114
  have h123 := hF9 _ _ _ (fun h9 => h9) h123
  have h132 := hF9 _ _ _ (fun h9 => h9) h132
  have h141 := hF9 _ _ _ (fun h9 => h9) h141
  have hF := hF.tr (hF9.mono (fun t h9 => h9.elim))
  refine v_putX C p60 h1 rfl rfl (Nat.le_of_ble_eq_true rfl) dX7_init_152 ?_
  refine v_upd h1 (fun w h1 hF9 hE9 => ?_)
  have h8 := hF9 _ _ _ (fun h9 => by have h8 : 32 = 30 := h9; omega) h8
  have h17 := hF9 _ _ _ (fun h9 => by have h8 : 34 = 30 := h9; omega) h17
  have h26 := hF9 _ _ _ (fun h9 => by have h8 : 35 = 30 := h9; omega) h26
  have h35 := hF9 _ _ _ (fun h9 => by have h8 : 40 = 30 := h9; omega) h35
  have h44 := hF9 _ _ _ (fun h9 => by have h8 : 41 = 30 := h9; omega) h44
  have h53 := hF9 _ _ _ (fun h9 => by have h8 : 42 = 30 := h9; omega) h53
  have h62 := hF9 _ _ _ (fun h9 => by have h8 : 44 = 30 := h9; omega) h62
  have h71 := hF9 _ _ _ (fun h9 => by have h8 : 45 = 30 := h9; omega) h71
  have h80 := hF9 _ _ _ (fun h9 => by have h8 : 46 = 30 := h9; omega) h80
  have h89 := hF9 _ _ _ (fun h9 => by have h8 : 47 = 30 := h9; omega) h89
  have h97 := hF9 _ _ _ (fun h9 => by have h8 : 49 = 30 := h9; omega) h97
  have h105 := hF9 _ _ _ (fun h9 => by have h8 : 51 = 30 := h9; omega) h105
  have h114 := hF9 _ _ _ (fun h9 => by have h8 : 56 = 30 := h9; omega) h114
  have h123 := hF9 _ _ _ (fun h9 => by have h8 : 57 = 30 := h9; omega) h123
  have h132 := hF9 _ _ _ (fun h9 => by have h8 : 58 = 30 := h9; omega) h132
  have h141 := hF9 _ _ _ (fun h9 => by have h8 : 59 = 30 := h9; omega) h141
  have h150 := hF9 _ _ _ (fun h9 => by have h8 : 61 = 30 := h9; omega) h150
  have hF := hF.tr (hF9.mono (fun t h9 => by have h8 : t = 30 := h9; show 30 ≤ t ∧ t < 70; omega))
  refine v_aload_n C dX7_init_155 rfl ?_
  refine v_sipush C dX7_init_156 rfl ?_
  refine v_newI C (62) (List.mem_of_getElem? (i := 4) rfl) (by omega) (by omega) (by dsimp only; omega) (by dsimp only; omega) dX7_init_159 (fun a159 ha159 => ?_)
  refine v_fresh ha159 (fun w h159 hF9 hE9 => ?_)
  have h1 := hF9 _ _ _ (fun h9 => h9) h1
  have h8 := hF9 _ _ _ (fun h9 => h9) h8
  have h17 := hF9 _ _ _ (fun h9 => h9) h17
  have h26 := hF9 _ _ _ (fun h9 => h9) h26
  have h35 := hF9 _ _ _ (fun h9 => h9) h35
  have h44 := hF9 _ _ _ (fun h9 => h9) h44
  have h53 := hF9 _ _ _ (fun h9 => h9) h53
  have h62 := hF9 _ _ _ (fun h9 => h9) h62
  have h71 := hF9 _ _ _ (fun h9 => h9) h71
  have h80 := hF9 _ _ _ (fun h9 => h9) h80
  have h89 := hF9 _ _ _ (fun h9 => h9) h89
  have h97 := hF9 _ _ _ (fun h9 => h9) h97
  have h105 := hF9 _ _ _ (fun h9 => h9) h105
  have h114 := hF9 _ _ _ (fun h9 => h9) h114
  have h123 := hF9 _ _ _ (fun h9 => h9) h123
  have h132 := hF9 _ _ _ (fun h9 => h9) h132
  have h141 := hF9 _ _ _ (fun h9 => h9) h141
  have h150 := hF9 _ _ _ (fun h9 => h9) h150
  have hF := hF.tr (hF9.mono (fun t h9 => h9.elim))
  refine v_putX C p63 h1 rfl rfl (Nat.le_of_ble_eq_true rfl) dX7_init_161 ?_
  refine v_upd h1 (fun w h1 hF9 hE9 => ?_)
  have h8 := hF9 _ _ _ (fun h9 => by have h8 : 32 = 30 := h9; omega) h8
  have h17 := hF9 _ _ _ (fun h9 => by have h8 : 34 = 30 := h9; omega) h17
  have h26 := hF9 _ _ _ (fun h9 => by have h8 : 35 = 30 := h9; omega) h26
  have h35 := hF9 _ _ _ (fun h9 => by have h8 : 40 = 30 := h9; omega) h35
  have h44 := hF9 _ _ _ (fun h9 => by have h8 : 41 = 30 := h9; omega) h44
  have h53 := hF9 _ _ _ (fun h9 => by have h8 : 42 = 30 := h9; omega) h53
  have h62 := hF9 _ _ _ (fun h9 => by have h8 : 44 = 30 := h9; omega) h62
  have h71 := hF9 _ _ _ (fun h9 => by have h8 : 45 = 30 := h9; omega) h71
  have h80 := hF9 _ _ _ (fun h9 => by have h8 : 46 = 30 := h9; omega) h80
  have h89 := hF9 _ _ _ (fun h9 => by have h8 : 47 = 30 := h9; omega) h89
  have h97 := hF9 _ _ _ (fun h9 => by have h8 : 49 = 30 := h9; omega) h97
  have h105 := hF9 _ _ _ (fun h9 => by have h8 : 51 = 30 := h9; omega) h105
  have h114 := hF9 _ _ _ (fun h9 => by have h8 : 56 = 30 := h9; omega) h114
  have h123 := hF9 _ _ _ (fun h9 => by have h8 : 57 = 30 := h9; omega) h123
  have h132 := hF9 _ _ _ (fun h9 => by have h8 : 58 = 30 := h9; omega) h132
  have h141 := hF9 _ _ _ (fun h9 => by have h8 : 59 = 30 := h9; omega) h141
  have h150 := hF9 _ _ _ (fun h9 => by have h8 : 61 = 30 := h9; omega) h150
  have h159 := hF9 _ _ _ (fun h9 => by have h8 : 62 = 30 := h9; omega) h159
  have hF := hF.tr (hF9.mono (fun t h9 => by have h8 : t = 30 := h9; show 30 ≤ t ∧ t < 70; omega))
  exact v_vret C rfl dX7_init_164 (by omega) (by omega) (hPO _ ⟨fun k => match k with | 1 => a8 | 3 => a17 | 4 => a26 | 9 => a35 | 10 => a44 | 11 => a53 | 13 => a62 | 14 => a71 | 15 => a80 | 16 => a89 | 18 => a97 | 20 => a105 | 25 => a114 | 26 => a123 | 27 => a132 | 28 => a141 | 30 => a150 | 31 => a159 | _ => 0, ⟨h1, h8, h17, h26, h35, h44, h53, h62, h71, h80, h89, h97, h105, h114, h123, h132, h141, h150, h159⟩, hF⟩)
