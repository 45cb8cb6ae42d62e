theorem bsl_4_1 {x0 x1 x2 x3 : Option Value} {v : Value} : stL [x0, x1, x2, x3] 1 v = [x0, some v, x2, x3] := rfl
theorem bsl_4_2 {x0 x1 x2 x3 : Option Value} {v : Value} : stL [x0, x1, x2, x3] 2 v = [x0, x1, some v, x3] := rfl
theorem bsl_5_3 {x0 x1 x2 x3 x4 : Option Value} {v : Value} : stL [x0, x1, x2, x3, x4] 3 v = [x0, x1, x2, some v, x4] := rfl
theorem bsl_5_4 {x0 x1 x2 x3 x4 : Option Value} {v : Value} : stL [x0, x1, x2, x3, x4] 4 v = [x0, x1, x2, x3, some v] := rfl
set_option maxRecDepth 100000 in
set_option maxHeartbeats 400000 in
theorem c_grow_0 {G : GG} {l : Launch} {w : Wd} {r : Nat} {T : Nat} {mc : Int} {L : Int → Nat} {n : Int} (h1 : w r = some (T, .inr (2, [.int (iI mc), .ref (gE G), .int (iI n)]))) (hn : n = 0) : MG G l yJx4a65c_grow_92f84 wsJx4a65c_grow_92f84 4 160 (1) ((n + n / 2 + 10).toNat) [.ref r, .int (iI (n + 1))] w (pR (fun (x : Option Nat) (w' : Wd) => ∃ k9 c9 g9, x = some k9 ∧ LR G w' T r mc k9 c9 g9 n L ∧ n < c9 ∧ Fr (fun t => t = T ∨ t = T + 1 ∨ t = 0) w w')) := by
  refine MG.of (cc := cJx4a65c_grow_92f84) (nL := 4) (ret := (some (.array (.object "java/lang/Object")))) (ll := [some (.ref r), some (.int (iI (n + 1))), none, none]) (by decide) rfl (Nat.le_of_ble_eq_true rfl) rfl ?_
  intro p e s m args below meth c C
  have hts := C.2.2.2.2.1
  have g9 : GetF G s m args 9 2 1 := getF_of C 2 1 (T := TJx4a65c) (N := 3) (Cn := RJx4a65c) (ref := "java/util/ArrayList") rfl (by decide) (fun _ h => List.mem_cons_of_mem _ (List.mem_append_right _ (h))) (List.mem_of_getElem? (i := 1) rfl) (fun _ h => h)
  have p9 : PutF G s m args 9 2 1 (.array (.object "java/lang/Object")) := putF_of C 2 1 tyJx4a65c tyJx4a65c_ok nmJx4a65c (T := TJx4a65c) (N := 3) (Cn := RJx4a65c) (ref := "java/util/ArrayList") rfl (by decide) (fun _ h => List.mem_cons_of_mem _ (List.mem_append_right _ (h))) (List.mem_of_getElem? (i := 1) rfl) (fun _ h => h) rfl (by decide +kernel)
  refine poR (P := fun PO => V G p l e _ s m args below meth c (MQW G below args s _ _ (pR PO)) w 0 0 0 _ []) (fun PO hPO => ?_)
  obtain ⟨w0, hw0⟩ : ∃ z, z = w := ⟨_, rfl⟩
  rw [← hw0] at hPO
  have hF : Fr (fun t => t = T ∨ t = T + 1 ∨ t = 0) w0 w := by rw [hw0]; exact Fr.rf
  refine v_aload_n C dJx4a65c_grow_92f84_0 rfl ?_
  refine v_getf C g9 h1 rfl dJx4a65c_grow_92f84_1 ?_
  refine v_alenE C dJx4a65c_grow_92f84_4 ?_
  refine v_istore_n C dJx4a65c_grow_92f84_5 bsl_4_2 (by decide) rfl ?_
  refine v_iload_n C dJx4a65c_grow_92f84_6 rfl ?_
  refine v_if_gt C (⟨by omega, by omega⟩) (tgt := 20) dJx4a65c_grow_92f84_7 (by decide) (fun c_7 => ?_) (fun c_7 => ?_)
  · exact absurd c_7 (by omega)
  · refine v_aload_n C dJx4a65c_grow_92f84_10 rfl ?_
    refine v_getf C g9 h1 rfl dJx4a65c_grow_92f84_11 ?_
    refine v_gets C (List.mem_of_getElem? (i := 2) rfl) dJx4a65c_grow_92f84_14 ?_
    refine v_acmp_eqS C (tgt := 45) dJx4a65c_grow_92f84_17 (by decide) ?_
    refine v_aload_n C dJx4a65c_grow_92f84_45 rfl ?_
    refine v_bipush C dJx4a65c_grow_92f84_46 rfl ?_
    refine v_iload_n C dJx4a65c_grow_92f84_48 rfl ?_
    refine v_max C (⟨by omega, by omega⟩) (⟨by omega, by omega⟩) (r := 10) (by omega) (List.mem_of_getElem? (i := 3) rfl) (List.mem_of_getElem? (i := 4) rfl) (List.mem_of_getElem? (i := 5) rfl) (List.mem_of_getElem? (i := 6) rfl) (Nat.le_of_ble_eq_true rfl) (Nat.le_of_ble_eq_true rfl) (by dsimp only; omega) (by dsimp only; omega) dJx4a65c_grow_92f84_49 ?_
    refine v_newQ C (T + 1) (List.mem_of_getElem? (i := 7) rfl) (by omega) (by omega) (by dsimp only; omega) (by dsimp only; omega) dJx4a65c_grow_92f84_52 (fun a52 ha52 => ?_)
    refine v_fresh ha52 (fun w h52 hF9 hE9 => ?_)
    have h1 := hF9 _ _ _ (fun h9 => h9) h1
    have hF := hF.tr (hF9.mono (fun t h9 => h9.elim))
    refine v_dup_x1 C rfl rfl dJx4a65c_grow_92f84_55 ?_
    refine v_putf C p9 h1 rfl rfl (Nat.le_of_ble_eq_true rfl) dJx4a65c_grow_92f84_56 ?_
    refine v_upd h1 (fun w h1 hF9 hE9 => ?_)
    have h52 := hF9 _ _ _ (fun h9 => by have h8 : T + 1 = T := h9; omega) h52
    have hF := hF.tr (hF9.mono (fun t h9 => by have h8 : t = T := h9; show t = T ∨ t = T + 1 ∨ t = 0; omega))
    exact v_aret C rfl (Or.inr ⟨_, rfl⟩) dJx4a65c_grow_92f84_59 (by omega) (by omega) (hPO _ _ ⟨a52, 10, _, rfl, ⟨h1, Or.inr ⟨h52, by omega⟩, ⟨by omega, by omega, by omega⟩, fun j a b => by omega⟩, by omega, hF⟩)
set_option maxRecDepth 100000 in
set_option maxHeartbeats 400000 in
theorem c_grow_N {G : GG} {l : Launch} {w : Wd} {r : Nat} {T : Nat} {L : Int → Nat} {n : Int} {mc cap : Int} {kq : Nat} {g : Int → Option Nat} {ci : Nat} {q0 : vw_C} (h1 : w r = some (T, .inr (2, [.int (iI mc), .ref kq, .int (iI n)]))) (h2 : w kq = some (T + 1, .inl (gO G, aQ cap g))) (hn : 0 < n ∧ n = cap ∧ n ≤ 10000000) (hg : ∀ j, 0 ≤ j → j < n → g j = some (L j)) (hel : Hel w ci cap g) (hT : 0 < T) (hq : vwCl[ci]? = some q0) (hca : (q0.1, "java/lang/Object") ∈ kkC) : MG G l yJx4a65c_grow_92f84 wsJx4a65c_grow_92f84 4 160 (1) ((n + n / 2 + 10).toNat) [.ref r, .int (iI (n + 1))] w (pR (fun (x : Option Nat) (w' : Wd) => ∃ k9 c9 g9, x = some k9 ∧ LR G w' T r mc k9 c9 g9 n L ∧ n < c9 ∧ Fr (fun t => t = T ∨ t = T + 1 ∨ t = 0) w w')) := by
  refine MG.of (cc := cJx4a65c_grow_92f84) (nL := 4) (ret := (some (.array (.object "java/lang/Object")))) (ll := [some (.ref r), some (.int (iI (n + 1))), none, none]) (by decide) rfl (Nat.le_of_ble_eq_true rfl) rfl ?_
  intro p e s m args below meth c C
  have hts := C.2.2.2.2.1
  have g9 : GetF G s m args 9 2 1 := getF_of C 2 1 (T := TJx4a65c) (N := 3) (Cn := RJx4a65c) (ref := "java/util/ArrayList") rfl (by decide) (fun _ h => List.mem_cons_of_mem _ (List.mem_append_right _ (h))) (List.mem_of_getElem? (i := 1) rfl) (fun _ h => h)
  have p9 : PutF G s m args 9 2 1 (.array (.object "java/lang/Object")) := putF_of C 2 1 tyJx4a65c tyJx4a65c_ok nmJx4a65c (T := TJx4a65c) (N := 3) (Cn := RJx4a65c) (ref := "java/util/ArrayList") rfl (by decide) (fun _ h => List.mem_cons_of_mem _ (List.mem_append_right _ (h))) (List.mem_of_getElem? (i := 1) rfl) (fun _ h => h) rfl (by decide +kernel)
  refine poR (P := fun PO => V G p l e _ s m args below meth c (MQW G below args s _ _ (pR PO)) w 0 0 0 _ []) (fun PO hPO => ?_)
  obtain ⟨w0, hw0⟩ : ∃ z, z = w := ⟨_, rfl⟩
  rw [← hw0] at hPO
  have hF : Fr (fun t => t = T ∨ t = T + 1 ∨ t = 0) w0 w := by rw [hw0]; exact Fr.rf
  refine v_aload_n C dJx4a65c_grow_92f84_0 rfl ?_
  refine v_getf C g9 h1 rfl dJx4a65c_grow_92f84_1 ?_
  refine v_alen C h2 (n := cap) (i := 3) rfl (Int.toNat_of_nonneg (a := cap) (by omega)) dJx4a65c_grow_92f84_4 ?_
  refine v_istore_n C dJx4a65c_grow_92f84_5 bsl_4_2 (by decide) rfl ?_
  refine v_iload_n C dJx4a65c_grow_92f84_6 rfl ?_
  refine v_if_gt C (⟨by omega, by omega⟩) (tgt := 20) dJx4a65c_grow_92f84_7 (by decide) (fun c_7 => ?_) (fun c_7 => ?_)
  · refine v_iload_n C dJx4a65c_grow_92f84_20 rfl ?_
    refine v_iload_n C dJx4a65c_grow_92f84_21 rfl ?_
    refine v_iload_n C dJx4a65c_grow_92f84_22 rfl ?_
    refine v_isub C dJx4a65c_grow_92f84_23 ?_
    refine v_iload_n C dJx4a65c_grow_92f84_24 rfl ?_
    refine v_iconst C dJx4a65c_grow_92f84_25 ?_
    refine v_ishr C ((ishr_I ⟨by omega, by omega⟩ (n := 1) (by omega) (by omega) : iI cap >>> (iI 1 &&& 31) = iI (cap / 2 ^ 1))) dJx4a65c_grow_92f84_26 ?_
    refine v_callSi C (b := 0) (t := 0) (ci := 0) (fs := []) (q := (RX7, TX7, 33)) (As := [_, _, _]) (rest := []) (c_J8_newLength_cabcc ⟨by omega, by omega, by omega, by omega, by omega, by omega⟩) (va_cwS 3 hts gJx4a65c_grow_92f84_J8_newLength_cabcc rfl rfl rfl (by decide +kernel) ⟨Nat.le_of_ble_eq_true rfl, Nat.le_of_ble_eq_true rfl⟩) rfl rfl (Nat.le_of_ble_eq_true rfl) dJx4a65c_grow_92f84_27 (by dsimp only; omega) (by dsimp only; omega) (fun x_27 w hp => ?_)
    obtain ⟨hx_27, rfl⟩ := hp
    refine v_istore_n C dJx4a65c_grow_92f84_30 bsl_4_3 (by decide) rfl ?_
    refine v_aload_n C dJx4a65c_grow_92f84_31 rfl ?_
    refine v_aload_n C dJx4a65c_grow_92f84_32 rfl ?_
    refine v_getf C g9 h1 rfl dJx4a65c_grow_92f84_33 ?_
    refine v_iload_n C dJx4a65c_grow_92f84_36 rfl ?_
    refine v_callSr C (b := 0) (t := 0) (ci := 0) (fs := []) (q := (RX7, TX7, 33)) (As := [_, _]) (rest := [_]) (c_J7_copyOf_1904c (t := T + 1) (cap := cap) (n := x_27) h2 (by omega) ⟨by omega, by omega, by omega⟩ hel hq hca) (va_cwS 2 hts gJx4a65c_grow_92f84_J7_copyOf_1904c rfl rfl rfl (by decide +kernel) ⟨Nat.le_of_ble_eq_true rfl, Nat.le_of_ble_eq_true rfl⟩) rfl rfl (Nat.le_of_ble_eq_true rfl) dJx4a65c_grow_92f84_37 (by dsimp only; omega) (by dsimp only; omega) (fun x_37 w hp => ?_)
    obtain ⟨b9, rfl, h3, hF9⟩ := hp
    have h1 := hF9 _ _ _ (fun h9 => by have h8 : T = 0 := h9; omega) h1
    have h2 := hF9 _ _ _ (fun h9 => by have h8 : T + 1 = 0 := h9; omega) h2
    have hF := hF.tr (hF9.mono (fun t h9 => by have h8 : t = 0 := h9; show t = T ∨ t = T + 1 ∨ t = 0; omega))
    refine v_retag h3 (T + 1) (fun w h3 hF9 hE9 => ?_)
    have h1 := hF9 _ _ _ (fun h9 => by have h8 : T = 0 := h9; omega) h1
    have hF := hF.tr (hF9.mono (fun t h9 => by have h8 : t = 0 := h9; show t = T ∨ t = T + 1 ∨ t = 0; omega))
    refine v_dup_x1 C rfl rfl dJx4a65c_grow_92f84_40 ?_
    refine v_putf C p9 h1 rfl rfl (Nat.le_of_ble_eq_true rfl) dJx4a65c_grow_92f84_41 ?_
    refine v_upd h1 (fun w h1 hF9 hE9 => ?_)
    have h3 := hF9 _ _ _ (fun h9 => by have h8 : T + 1 = T := h9; omega) h3
    have hF := hF.tr (hF9.mono (fun t h9 => by have h8 : t = T := h9; show t = T ∨ t = T + 1 ∨ t = 0; omega))
    exact v_aret C rfl (Or.inr ⟨_, rfl⟩) dJx4a65c_grow_92f84_44 (by omega) (by omega) (hPO _ _ ⟨b9, x_27, _, rfl, ⟨h1, Or.inr ⟨h3, by omega⟩, ⟨by omega, by omega, by omega⟩, fun j a b => by rw [cpI_in ⟨by omega, by omega⟩, show 0 + (j - 0) = j by omega]; exact hg j a b⟩, by omega, hF⟩)
  · exact absurd c_7 (by omega)
theorem c_grow {G : GG} {l : Launch} {w : Wd} {r : Nat} {T : Nat} {n : Int} {L : Int → Nat} {mc cap : Int} {kq : Nat} {g : Int → Option Nat} {ci : Nat} {q0 : vw_C} {U : Nat → Prop} (hB : LR G w T r mc kq cap g n L) (hn : n = cap ∧ n ≤ 10000000) (hT : 0 < T) (hM : Mem w U ci n L) (hq : vwCl[ci]? = some q0) (hca : (q0.1, "java/lang/Object") ∈ kkC) : MG G l yJx4a65c_grow_92f84 wsJx4a65c_grow_92f84 4 160 1 ((n + n / 2 + 10).toNat) [.ref r, .int (iI (n + 1))] w (pR (fun (x : Option Nat) (w' : Wd) => ∃ k9 c9 g9, x = some k9 ∧ LR G w' T r mc k9 c9 g9 n L ∧ n < c9 ∧ Fr (fun t => t = T ∨ t = T + 1 ∨ t = 0) w w')) := by
  obtain ⟨h1, hA, hb, hg⟩ := hB
  rcases hA with ⟨rfl, rfl⟩ | ⟨h2, hc⟩
  · exact c_grow_0 h1 (by omega)
  · exact c_grow_N h1 h2 ⟨by omega, by omega, by omega⟩ hg (by rw [← hn.1]; exact hM.hel hg) hT hq hca
set_option maxRecDepth 100000 in
set_option maxHeartbeats 400000 in
theorem c_Jx4a65c_grow_d5877 {G : GG} {l : Launch} {w : Wd} {r : Nat} {T : Nat} {n : Int} {L : Int → Nat} {mc cap : Int} {kq : Nat} {g : Int → Option Nat} {ci : Nat} {q0 : vw_C} {U : Nat → Prop}  (hB : LR G w T r mc kq cap g n L) (hn : n = cap ∧ n ≤ 10000000) (hT : 0 < T) (hM : Mem w U ci n L) (hU : ∀ t, U t → t ≠ T ∧ t ≠ T + 1 ∧ t ≠ 0) (hq : vwCl[ci]? = some q0) (hca : (q0.1, "java/lang/Object") ∈ kkC) : MG G l yJx4a65c_grow_d5877 wsJx4a65c_grow_d5877 5 200 (1) ((n + n / 2 + 10).toNat) [.ref r] w (pR (fun (x : Option Nat) (w' : Wd) => ∃ k9 c9 g9, x = some k9 ∧ LR G w' T r mc k9 c9 g9 n L ∧ n < c9 ∧ Fr (fun t => t = T ∨ t = T + 1 ∨ t = 0) w w')) := by
  refine MG.of (cc := cJx4a65c_grow_d5877) (nL := 1) (ret := (some (.array (.object "java/lang/Object")))) (ll := [some (.ref r)]) (by decide) rfl (Nat.le_of_ble_eq_true rfl) rfl ?_
  intro p e s m args below meth c C
  have hts := C.2.2.2.2.1
  have g48 : GetF G s m args 48 2 2 := getF_of C 2 2 (T := TJx4a65c) (N := 3) (Cn := RJx4a65c) (ref := "java/util/ArrayList") rfl (by decide) (fun _ h => List.mem_cons_of_mem _ (List.mem_append_right _ (h))) (List.mem_of_getElem? (i := 1) rfl) (fun _ h => h)
  refine poR (P := fun PO => V G p l e _ s m args below meth c (MQW G below args s _ _ (pR PO)) w 0 0 0 _ []) (fun PO hPO => ?_)
  obtain ⟨w0, hw0⟩ : ∃ z, z = w := ⟨_, rfl⟩
  rw [← hw0] at hPO
  have hF : Fr (fun t => t = T ∨ t = T + 1 ∨ t = 0) w0 w := by rw [hw0]; exact Fr.rf
  obtain ⟨h1, hA, hb, hg⟩ := hB
  refine v_aload_n C dJx4a65c_grow_d5877_0 rfl ?_
  refine v_aload_n C dJx4a65c_grow_d5877_1 rfl ?_
  refine v_getf C g48 h1 rfl dJx4a65c_grow_d5877_2 ?_
  refine v_iconst C dJx4a65c_grow_d5877_5 ?_
  refine v_iadd C dJx4a65c_grow_d5877_6 ?_
  refine v_callVr C (q := (RJx4a65c, TJx4a65c, 3)) (As := [_]) (rest := []) (c_grow ⟨h1, hA, hb, hg⟩ ⟨by omega, by omega⟩ hT hM hq hca) (cwV 1 hts gJx4a65c_grow_d5877_Jx4a65c_grow_92f84 rfl rfl rfl (by decide +kernel) ⟨Nat.le_of_ble_eq_true rfl, Nat.le_of_ble_eq_true rfl⟩) (h1) rfl rfl rfl (Nat.le_of_ble_eq_true rfl) dJx4a65c_grow_d5877_7 (by dsimp only; omega) (by dsimp only; omega) (fun x_7 w hp => ?_)
  obtain ⟨k9, c9, g9, rfl, ⟨h1, hA, hb, hg⟩, hc9, hF9⟩ := hp
  have hM := hM.fr hF9 (fun t u h9 => by have h7 := hU t u; have h8 : t = T ∨ t = T + 1 ∨ t = 0 := h9; omega)
  have hF := hF.tr (hF9.mono (fun t h9 => by have h8 : t = T ∨ t = T + 1 ∨ t = 0 := h9; show t = T ∨ t = T + 1 ∨ t = 0; omega))
  exact v_aret C rfl (Or.inr ⟨_, rfl⟩) dJx4a65c_grow_d5877_10 (by omega) (by omega) (hPO _ _ ⟨k9, c9, g9, rfl, ⟨h1, hA, hb, hg⟩, by omega, hF⟩)
set_option maxRecDepth 100000 in
set_option maxHeartbeats 400000 in
theorem c_Jx4a65c_add_72be8 {G : GG} {l : Launch} {w : Wd} {r : Nat} {T : Nat} {n : Int} {L : Int → Nat} {mc cap : Int} {kq : Nat} {g : Int → Option Nat} {ci tv v : Nat} {vs : List Value} {q0 : vw_C} {U : Nat → Prop}  (hB : LR G w T r mc kq cap g n L) (hn : n ≤ 10000000) (hM : Mem w U ci n L) (hU : ∀ t, U t → t ≠ T ∧ t ≠ T + 1 ∧ t ≠ 0) (hv : w v = some (tv, .inr (ci, vs))) (hq : vwCl[ci]? = some q0) (hca : (q0.1, "java/lang/Object") ∈ kkC) (htv : 0 < T ∧ tv ≠ T ∧ tv ≠ T + 1 ∧ tv ≠ 0) : MG G l yJx4a65c_add_72be8 wsJx4a65c_add_72be8 6 240 (1) ((n + n / 2 + 10).toNat) [.ref r, .ref v, .ref kq, .int (iI n)] w (pV (fun (w' : Wd) => ListAt G w' T r (n + 1) (upA L n v) ∧ Fr (fun t => t = T ∨ t = T + 1 ∨ t = 0) w w')) := by
  refine MG.of (cc := cJx4a65c_add_72be8) (nL := 4) (ret := none) (ll := [some (.ref r), some (.ref v), some (.ref kq), some (.int (iI n))]) (by decide) rfl (Nat.le_of_ble_eq_true rfl) rfl ?_
  intro p e s m args below meth c C
  have hts := C.2.2.2.2.1
  have p48 : PutF G s m args 48 2 2 (.int) := putF_of C 2 2 tyJx4a65c tyJx4a65c_ok nmJx4a65c (T := TJx4a65c) (N := 3) (Cn := RJx4a65c) (ref := "java/util/ArrayList") rfl (by decide) (fun _ h => List.mem_cons_of_mem _ (List.mem_append_right _ (h))) (List.mem_of_getElem? (i := 1) rfl) (fun _ h => h) rfl (by decide +kernel)
  refine poV (P := fun PO => V G p l e _ s m args below meth c (MQW G below args s _ _ (pV PO)) w 0 0 0 _ []) (fun PO hPO => ?_)
  obtain ⟨w0, hw0⟩ : ∃ z, z = w := ⟨_, rfl⟩
  rw [← hw0] at hPO
  have hF : Fr (fun t => t = T ∨ t = T + 1 ∨ t = 0) w0 w := by rw [hw0]; exact Fr.rf
  obtain ⟨h1, hA, hb, hg⟩ := hB
  have J11 : ∀ (w : Wd) (k9 : Nat) (mc c9 : Int) (g9 : Int → Option Nat), (LR G w T r mc k9 c9 g9 n L) → (n < c9) → (w v = some (tv, .inr (ci, vs))) → (Fr (fun t => t = T ∨ t = T + 1 ∨ t = 0) w0 w) → V G p l e { frames := 6, cells := 1, slots := (n + n / 2 + 10).toNat, locals := 240 } s m args below meth c (MQW G below args s (1) ((n + n / 2 + 10).toNat) (pV PO)) w (1) ((n + n / 2 + 10).toNat) 11 [some (.ref r), some (.ref v), some (.ref k9), some (.int (iI n))] [] := by
    intro w k9 mc c9 g9 hB hc9 hv hF
    obtain ⟨h1, hA, hb, hg⟩ := hB
    have h2 := hA.arr (by omega)
    refine v_aload_n C dJx4a65c_add_72be8_11 rfl ?_
    refine v_iload_n C dJx4a65c_add_72be8_12 rfl ?_
    refine v_aload_n C dJx4a65c_add_72be8_13 rfl ?_
    refine v_aast C h2 (hv) hq hca (⟨by omega, by omega⟩) (by omega) (by omega) dJx4a65c_add_72be8_14 ?_
    refine v_upd h2 (fun w h2 hF9 hE9 => ?_)
    have h1 := hF9 _ _ _ (fun h9 => by have h8 : T = T + 1 := h9; omega) h1
    have hv := hF9 _ _ _ (fun h9 => by have h8 : tv = T + 1 := h9; omega) hv
    have hF := hF.tr (hF9.mono (fun t h9 => by have h8 : t = T + 1 := h9; show t = T ∨ t = T + 1 ∨ t = 0; omega))
    refine v_aload_n C dJx4a65c_add_72be8_15 rfl ?_
    refine v_iload_n C dJx4a65c_add_72be8_16 rfl ?_
    refine v_iconst C dJx4a65c_add_72be8_17 ?_
    refine v_iadd C dJx4a65c_add_72be8_18 ?_
    refine v_putf C p48 h1 rfl rfl (Nat.le_of_ble_eq_true rfl) dJx4a65c_add_72be8_19 ?_
    refine v_upd h1 (fun w h1 hF9 hE9 => ?_)
    have h2 := hF9 _ _ _ (fun h9 => by have h8 : T + 1 = T := h9; omega) h2
    have hv := hF9 _ _ _ (fun h9 => by have h8 : tv = T := h9; omega) hv
    have hF := hF.tr (hF9.mono (fun t h9 => by have h8 : t = T := h9; show t = T ∨ t = T + 1 ∨ t = 0; omega))
    exact v_vret C rfl dJx4a65c_add_72be8_22 (by omega) (by omega) (hPO _ ⟨⟨_, k9, c9, _, h1, Or.inr ⟨h2, by omega⟩, ⟨by omega, by omega, by omega⟩, fun j a b => by
        by_cases q : j = n
        · rw [q, upQ_eq, upA_eq]
        · rw [upQ_ne q, upA_ne q]; exact hg j a (by omega)⟩, hF⟩)
  refine v_iload_n C dJx4a65c_add_72be8_0 rfl ?_
  refine v_aload_n C dJx4a65c_add_72be8_1 rfl ?_
  refine v_alenA C hA (by omega) dJx4a65c_add_72be8_2 ?_
  refine v_icmp_ne C (⟨by omega, by omega⟩) (⟨by omega, by omega⟩) (tgt := 11) dJx4a65c_add_72be8_3 (by decide) (fun c_3 => ?_) (fun c_3 => ?_)
  · refine v_wide (k' := 1) (z' := (n + n / 2 + 10).toNat) (by omega) (by omega) ?_
    exact J11 w kq mc cap g ⟨h1, hA, hb, hg⟩ (by omega) hv hF
  · refine v_aload_n C dJx4a65c_add_72be8_6 rfl ?_
    refine v_callVr C (q := (RJx4a65c, TJx4a65c, 3)) (As := []) (rest := []) (c_Jx4a65c_grow_d5877 ⟨h1, hA, hb, hg⟩ ⟨by omega, by omega⟩ htv.1 hM hU hq hca) (cwV 0 hts gJx4a65c_add_72be8_Jx4a65c_grow_d5877 rfl rfl rfl (by decide +kernel) ⟨Nat.le_of_ble_eq_true rfl, Nat.le_of_ble_eq_true rfl⟩) (h1) rfl rfl rfl (Nat.le_of_ble_eq_true rfl) dJx4a65c_add_72be8_7 (by dsimp only; omega) (by dsimp only; omega) (fun x_7 w hp => ?_)
    obtain ⟨k9, c9, g9, rfl, ⟨h1, hA, hb, hg⟩, hc9, hF9⟩ := hp
    have hM := hM.fr hF9 (fun t u h9 => by have h7 := hU t u; have h8 : t = T ∨ t = T + 1 ∨ t = 0 := h9; omega)
    have hv := hF9 _ _ _ (fun h9 => by have h8 : tv = T ∨ tv = T + 1 ∨ tv = 0 := h9; omega) hv
    have hF := hF.tr (hF9.mono (fun t h9 => by have h8 : t = T ∨ t = T + 1 ∨ t = 0 := h9; show t = T ∨ t = T + 1 ∨ t = 0; omega))
    refine v_astore_n C dJx4a65c_add_72be8_10 bsl_4_2 (by decide) rfl ?_
    refine v_wide (k' := 1) (z' := (n + n / 2 + 10).toNat) (by omega) (by omega) ?_
    exact J11 w k9 mc c9 g9 ⟨h1, hA, hb, hg⟩ hc9 hv hF
set_option maxRecDepth 100000 in
set_option maxHeartbeats 400000 in
theorem c_Jx4a65c_add_9ea2d {G : GG} {l : Launch} {w : Wd} {r : Nat} {T : Nat} {n : Int} {L : Int → Nat} {ci tv v : Nat} {vs : List Value} {q0 : vw_C} {U : Nat → Prop}  (hB : ListAt G w T r n L) (hn : n ≤ 10000000) (hM : Mem w U ci n L) (hU : ∀ t, U t → t ≠ T ∧ t ≠ T + 1 ∧ t ≠ 0) (hv : w v = some (tv, .inr (ci, vs))) (hq : vwCl[ci]? = some q0) (hca : (q0.1, "java/lang/Object") ∈ kkC) (htv : 0 < T ∧ tv ≠ T ∧ tv ≠ T + 1 ∧ tv ≠ 0) : MG G l yJx4a65c_add_9ea2d wsJx4a65c_add_9ea2d 7 280 (1) ((n + n / 2 + 10).toNat) [.ref r, .ref v] w (pI (fun (x : Int) (w' : Wd) => x = 1 ∧ ListAt G w' T r (n + 1) (upA L n v) ∧ Fr (fun t => t = T ∨ t = T + 1 ∨ t = 0) w w')) := by
  refine MG.of (cc := cJx4a65c_add_9ea2d) (nL := 2) (ret := (some .boolean)) (ll := [some (.ref r), some (.ref v)]) (by decide) rfl (Nat.le_of_ble_eq_true rfl) rfl ?_
  intro p e s m args below meth c C
  have hts := C.2.2.2.2.1
  have g63 : GetF G s m args 63 2 0 := getF_of C 2 0 (T := TJx4a65c) (N := 3) (Cn := RJx4a65c) (ref := "java/util/ArrayList") rfl (by decide) (fun _ h => List.mem_cons_of_mem _ (List.mem_append_right _ (h))) (List.mem_of_getElem? (i := 1) rfl) (fun x9 h9 => u_same (hts (.sameField "java/util/ArrayList" "java/util/AbstractList" "modCount" "I") (List.mem_of_getElem? (i := 2) rfl)) x9 h9)
  have p63 : PutF G s m args 63 2 0 (.int) := putF_of C 2 0 tyJx4a65c tyJx4a65c_ok nmJx4a65c (T := TJx4a65c) (N := 3) (Cn := RJx4a65c) (ref := "java/util/ArrayList") rfl (by decide) (fun _ h => List.mem_cons_of_mem _ (List.mem_append_right _ (h))) (List.mem_of_getElem? (i := 1) rfl) (fun x9 h9 => u_same (hts (.sameField "java/util/ArrayList" "java/util/AbstractList" "modCount" "I") (List.mem_of_getElem? (i := 2) rfl)) x9 h9) rfl (by decide +kernel)
  have g9 : GetF G s m args 9 2 1 := getF_of C 2 1 (T := TJx4a65c) (N := 3) (Cn := RJx4a65c) (ref := "java/util/ArrayList") rfl (by decide) (fun _ h => List.mem_cons_of_mem _ (List.mem_append_right _ (h))) (List.mem_of_getElem? (i := 3) rfl) (fun _ h => h)
  have g48 : GetF G s m args 48 2 2 := getF_of C 2 2 (T := TJx4a65c) (N := 3) (Cn := RJx4a65c) (ref := "java/util/ArrayList") rfl (by decide) (fun _ h => List.mem_cons_of_mem _ (List.mem_append_right _ (h))) (List.mem_of_getElem? (i := 4) rfl) (fun _ h => h)
  refine poI (P := fun PO => V G p l e _ s m args below meth c (MQW G below args s _ _ (pI PO)) w 0 0 0 _ []) (fun PO hPO => ?_)
  obtain ⟨w0, hw0⟩ : ∃ z, z = w := ⟨_, rfl⟩
  rw [← hw0] at hPO
  have hF : Fr (fun t => t = T ∨ t = T + 1 ∨ t = 0) w0 w := by rw [hw0]; exact Fr.rf
  obtain ⟨mc, kq, cap, g, h1, hA, hb, hg⟩ := hB
  refine v_aload_n C dJx4a65c_add_9ea2d_0 rfl ?_
  refine v_dup C rfl dJx4a65c_add_9ea2d_1 ?_
  refine v_getf C g63 h1 rfl dJx4a65c_add_9ea2d_2 ?_
  refine v_iconst C dJx4a65c_add_9ea2d_5 ?_
  refine v_iadd C dJx4a65c_add_9ea2d_6 ?_
  refine v_putf C p63 h1 rfl rfl (Nat.le_of_ble_eq_true rfl) dJx4a65c_add_9ea2d_7 ?_
  refine v_upd h1 (fun w h1 hF9 hE9 => ?_)
  have hA := hA.fr hF9 (fun h9 => by have h8 : T + 1 = T := h9; omega)
  have hM := hM.fr hF9 (fun t u h9 => by have h7 := hU t u; have h8 : t = T := h9; omega)
  have hv := hF9 _ _ _ (fun h9 => by have h8 : tv = T := h9; omega) hv
  have hF := hF.tr (hF9.mono (fun t h9 => by have h8 : t = T := h9; show t = T ∨ t = T + 1 ∨ t = 0; omega))
  refine v_aload_n C dJx4a65c_add_9ea2d_10 rfl ?_
  refine v_aload_n C dJx4a65c_add_9ea2d_11 rfl ?_
  refine v_aload_n C dJx4a65c_add_9ea2d_12 rfl ?_
  refine v_getf C g9 h1 rfl dJx4a65c_add_9ea2d_13 ?_
  refine v_aload_n C dJx4a65c_add_9ea2d_16 rfl ?_
  refine v_getf C g48 h1 rfl dJx4a65c_add_9ea2d_17 ?_
  refine v_callVv C (q := (RJx4a65c, TJx4a65c, 3)) (As := [_, _, _]) (rest := []) (c_Jx4a65c_add_72be8 ⟨h1, hA, hb, hg⟩ hn hM hU hv hq hca htv) (cwV 3 hts gJx4a65c_add_9ea2d_Jx4a65c_add_72be8 rfl rfl rfl (by decide +kernel) ⟨Nat.le_of_ble_eq_true rfl, Nat.le_of_ble_eq_true rfl⟩) (h1) rfl rfl rfl (Nat.le_of_ble_eq_true rfl) dJx4a65c_add_9ea2d_20 (by dsimp only; omega) (by dsimp only; omega) (fun w hp => ?_)
  obtain ⟨hL2, hF9⟩ := hp
  have hF := hF.tr hF9
  refine v_iconst C dJx4a65c_add_9ea2d_23 ?_
  exact v_zret C rfl (by omega) dJx4a65c_add_9ea2d_24 (by omega) (by omega) (hPO _ _ ⟨rfl, hL2, hF⟩)
set_option maxRecDepth 100000 in
set_option maxHeartbeats 400000 in
theorem c_Jx4a65c_rangeCheckForAdd_d00df {G : GG} {l : Launch} {w : Wd} {r : Nat} {T : Nat} {n : Int} {L : Int → Nat} {i : Int} (hB : ListAt G w T r n L) (hi : 0 ≤ i ∧ i ≤ n) : MG G l yJx4a65c_rangeCheckForAdd_d00df wsJx4a65c_rangeCheckForAdd_d00df 1 40 (0) (0) [.ref r, .int (iI i)] w (pV (fun (w' : Wd) => w' = w)) := by
  refine MG.of (cc := cJx4a65c_rangeCheckForAdd_d00df) (nL := 2) (ret := none) (ll := [some (.ref r), some (.int (iI i))]) (by decide) rfl (Nat.le_of_ble_eq_true rfl) rfl ?_
  intro p e s m args below meth c C
  have hts := C.2.2.2.2.1
  have g48 : GetF G s m args 48 2 2 := getF_of C 2 2 (T := TJx4a65c) (N := 3) (Cn := RJx4a65c) (ref := "java/util/ArrayList") rfl (by decide) (fun _ h => List.mem_cons_of_mem _ (List.mem_append_right _ (h))) (List.mem_of_getElem? (i := 1) rfl) (fun _ h => h)
  refine poV (P := fun PO => V G p l e _ s m args below meth c (MQW G below args s _ _ (pV PO)) w 0 0 0 _ []) (fun PO hPO => ?_)
  obtain ⟨mc, kq, cap, g, h1, hA, hb, hg⟩ := hB
  refine v_iload_n C dJx4a65c_rangeCheckForAdd_d00df_0 rfl ?_
  refine v_aload_n C dJx4a65c_rangeCheckForAdd_d00df_1 rfl ?_
  refine v_getf C g48 h1 rfl dJx4a65c_rangeCheckForAdd_d00df_2 ?_
  refine v_icmp_gt C (⟨by omega, by omega⟩) (⟨by omega, by omega⟩) (tgt := 12) dJx4a65c_rangeCheckForAdd_d00df_5 (by decide) (fun c_5 => ?_) (fun c_5 => ?_)
  · exact absurd c_5 (by omega)
  · refine v_iload_n C dJx4a65c_rangeCheckForAdd_d00df_8 rfl ?_
    refine v_if_ge C (⟨by omega, by omega⟩) (tgt := 25) dJx4a65c_rangeCheckForAdd_d00df_9 (by decide) (fun c_9 => ?_) (fun c_9 => ?_)
    · exact v_vret C rfl dJx4a65c_rangeCheckForAdd_d00df_25 (by omega) (by omega) (hPO _ rfl)
    · exact absurd c_9 (by omega)
set_option maxRecDepth 100000 in
set_option maxHeartbeats 400000 in
theorem c_Jx4a65c_add_7a177 {G : GG} {l : Launch} {w : Wd} {r : Nat} {T : Nat} {n : Int} {L : Int → Nat} {i : Int} {ci tv v : Nat} {vs : List Value} {q0 : vw_C} {U : Nat → Prop}  (hB : ListAt G w T r n L) (hn : n ≤ 10000000) (hi : 0 ≤ i ∧ i ≤ n) (hM : Mem w U ci n L) (hU : ∀ t, U t → t ≠ T ∧ t ≠ T + 1 ∧ t ≠ 0) (hv : w v = some (tv, .inr (ci, vs))) (hq : vwCl[ci]? = some q0) (hca : (q0.1, "java/lang/Object") ∈ kkC) (htv : 0 < T ∧ tv ≠ T ∧ tv ≠ T + 1 ∧ tv ≠ 0) : MG G l yJx4a65c_add_7a177 wsJx4a65c_add_7a177 6 240 (1) ((n + n / 2 + 10).toNat) [.ref r, .int (iI i), .ref v] w (pV (fun (w' : Wd) => ListAt G w' T r (n + 1) (insA L i v) ∧ Fr (fun t => t = T ∨ t = T + 1 ∨ t = 0) w w')) := by
  refine MG.of (cc := cJx4a65c_add_7a177) (nL := 5) (ret := none) (ll := [some (.ref r), some (.int (iI i)), some (.ref v), none, none]) (by decide) rfl (Nat.le_of_ble_eq_true rfl) rfl ?_
  intro p e s m args below meth c C
  have hts := C.2.2.2.2.1
  have p48 : PutF G s m args 48 2 2 (.int) := putF_of C 2 2 tyJx4a65c tyJx4a65c_ok nmJx4a65c (T := TJx4a65c) (N := 3) (Cn := RJx4a65c) (ref := "java/util/ArrayList") rfl (by decide) (fun _ h => List.mem_cons_of_mem _ (List.mem_append_right _ (h))) (List.mem_of_getElem? (i := 3) rfl) (fun _ h => h) rfl (by decide +kernel)
  have g63 : GetF G s m args 63 2 0 := getF_of C 2 0 (T := TJx4a65c) (N := 3) (Cn := RJx4a65c) (ref := "java/util/ArrayList") rfl (by decide) (fun _ h => List.mem_cons_of_mem _ (List.mem_append_right _ (h))) (List.mem_of_getElem? (i := 1) rfl) (fun x9 h9 => u_same (hts (.sameField "java/util/ArrayList" "java/util/AbstractList" "modCount" "I") (List.mem_of_getElem? (i := 2) rfl)) x9 h9)
  have p63 : PutF G s m args 63 2 0 (.int) := putF_of C 2 0 tyJx4a65c tyJx4a65c_ok nmJx4a65c (T := TJx4a65c) (N := 3) (Cn := RJx4a65c) (ref := "java/util/ArrayList") rfl (by decide) (fun _ h => List.mem_cons_of_mem _ (List.mem_append_right _ (h))) (List.mem_of_getElem? (i := 1) rfl) (fun x9 h9 => u_same (hts (.sameField "java/util/ArrayList" "java/util/AbstractList" "modCount" "I") (List.mem_of_getElem? (i := 2) rfl)) x9 h9) rfl (by decide +kernel)
  have g48 : GetF G s m args 48 2 2 := getF_of C 2 2 (T := TJx4a65c) (N := 3) (Cn := RJx4a65c) (ref := "java/util/ArrayList") rfl (by decide) (fun _ h => List.mem_cons_of_mem _ (List.mem_append_right _ (h))) (List.mem_of_getElem? (i := 3) rfl) (fun _ h => h)
  have g9 : GetF G s m args 9 2 1 := getF_of C 2 1 (T := TJx4a65c) (N := 3) (Cn := RJx4a65c) (ref := "java/util/ArrayList") rfl (by decide) (fun _ h => List.mem_cons_of_mem _ (List.mem_append_right _ (h))) (List.mem_of_getElem? (i := 4) rfl) (fun _ h => h)
  refine poV (P := fun PO => V G p l e _ s m args below meth c (MQW G below args s _ _ (pV PO)) w 0 0 0 _ []) (fun PO hPO => ?_)
  obtain ⟨w0, hw0⟩ : ∃ z, z = w := ⟨_, rfl⟩
  rw [← hw0] at hPO
  have hF : Fr (fun t => t = T ∨ t = T + 1 ∨ t = 0) w0 w := by rw [hw0]; exact Fr.rf
  obtain ⟨mc, kq, cap, g, h1, hA, hb, hg⟩ := hB
  have J38 : ∀ (w : Wd) (k9 : Nat) (mc c9 : Int) (g9 : Int → Option Nat), (LR G w T r mc k9 c9 g9 n L) → (n < c9) → (Mem w U ci n L) → (w v = some (tv, .inr (ci, vs))) → (Fr (fun t => t = T ∨ t = T + 1 ∨ t = 0) w0 w) → V G p l e { frames := 6, cells := 1, slots := (n + n / 2 + 10).toNat, locals := 240 } s m args below meth c (MQW G below args s (1) ((n + n / 2 + 10).toNat) (pV PO)) w (1) ((n + n / 2 + 10).toNat) 38 [some (.ref r), some (.int (iI i)), some (.ref v), some (.int (iI n)), some (.ref k9)] [] := by
    intro w k9 mc c9 g9 hB hc9 hM hv hF
    obtain ⟨h1, hA, hb, hg⟩ := hB
    have h2 := hA.arr (by omega)
    refine v_aload C dJx4a65c_add_7a177_38 rfl ?_
    refine v_iload_n C dJx4a65c_add_7a177_40 rfl ?_
    refine v_aload C dJx4a65c_add_7a177_41 rfl ?_
    refine v_iload_n C dJx4a65c_add_7a177_43 rfl ?_
    refine v_iconst C dJx4a65c_add_7a177_44 ?_
    refine v_iadd C dJx4a65c_add_7a177_45 ?_
    refine v_iload_n C dJx4a65c_add_7a177_46 rfl ?_
    refine v_iload_n C dJx4a65c_add_7a177_47 rfl ?_
    refine v_isub C dJx4a65c_add_7a177_48 ?_
    refine v_copyQ C h2 h2 (List.mem_of_getElem? (i := 5) rfl) (List.mem_of_getElem? (i := 6) rfl) (List.mem_of_getElem? (i := 7) rfl) (List.mem_of_getElem? (i := 8) rfl) (⟨by omega, by omega, by omega⟩) (⟨by omega, by omega, by omega, by omega⟩) (fun j h8 h9 b e => hM.hel hg j (by omega) (by omega) b e) hq hca (Nat.le_of_ble_eq_true rfl) (Nat.le_of_ble_eq_true rfl) dJx4a65c_add_7a177_49 ?_
    refine v_upd h2 (fun w h2 hF9 hE9 => ?_)
    have h1 := hF9 _ _ _ (fun h9 => by have h8 : T = T + 1 := h9; omega) h1
    have hv := hF9 _ _ _ (fun h9 => by have h8 : tv = T + 1 := h9; omega) hv
    have hF := hF.tr (hF9.mono (fun t h9 => by have h8 : t = T + 1 := h9; show t = T ∨ t = T + 1 ∨ t = 0; omega))
    refine v_aload C dJx4a65c_add_7a177_52 rfl ?_
    refine v_iload_n C dJx4a65c_add_7a177_54 rfl ?_
    refine v_aload_n C dJx4a65c_add_7a177_55 rfl ?_
    refine v_aast C h2 (hv) hq hca (⟨by omega, by omega⟩) (by omega) (by omega) dJx4a65c_add_7a177_56 ?_
    refine v_upd h2 (fun w h2 hF9 hE9 => ?_)
    have h1 := hF9 _ _ _ (fun h9 => by have h8 : T = T + 1 := h9; omega) h1
    have hv := hF9 _ _ _ (fun h9 => by have h8 : tv = T + 1 := h9; omega) hv
    have hF := hF.tr (hF9.mono (fun t h9 => by have h8 : t = T + 1 := h9; show t = T ∨ t = T + 1 ∨ t = 0; omega))
    refine v_aload_n C dJx4a65c_add_7a177_57 rfl ?_
    refine v_iload_n C dJx4a65c_add_7a177_58 rfl ?_
    refine v_iconst C dJx4a65c_add_7a177_59 ?_
    refine v_iadd C dJx4a65c_add_7a177_60 ?_
    refine v_putf C p48 h1 rfl rfl (Nat.le_of_ble_eq_true rfl) dJx4a65c_add_7a177_61 ?_
    refine v_upd h1 (fun w h1 hF9 hE9 => ?_)
    have h2 := hF9 _ _ _ (fun h9 => by have h8 : T + 1 = T := h9; omega) h2
    have hv := hF9 _ _ _ (fun h9 => by have h8 : tv = T := h9; omega) hv
    have hF := hF.tr (hF9.mono (fun t h9 => by have h8 : t = T := h9; show t = T ∨ t = T + 1 ∨ t = 0; omega))
    exact v_vret C rfl dJx4a65c_add_7a177_64 (by omega) (by omega) (hPO _ ⟨⟨_, k9, c9, _, h1, Or.inr ⟨h2, by omega⟩, ⟨by omega, by omega, by omega⟩, fun j a b => by
        by_cases q : j = i
        · rw [q, upQ_eq, insA_at]
        · rw [upQ_ne q]
          by_cases q2 : j < i
          · rw [insA_lo q2, cpI_out (by omega)]; exact hg j a (by omega)
          · rw [insA_hi (by omega), cpI_in ⟨by omega, by omega⟩, show i + (j - (i + 1)) = j - 1 by omega]; exact hg _ (by omega) (by omega)⟩, hF⟩)
  refine v_aload_n C dJx4a65c_add_7a177_0 rfl ?_
  refine v_iload_n C dJx4a65c_add_7a177_1 rfl ?_
  refine v_callVv C (q := (RJx4a65c, TJx4a65c, 3)) (As := [_]) (rest := []) (c_Jx4a65c_rangeCheckForAdd_d00df ⟨mc, kq, cap, g, h1, hA, hb, hg⟩ hi) (cwV 1 hts gJx4a65c_add_7a177_Jx4a65c_rangeCheckForAdd_d00df rfl rfl rfl (by decide +kernel) ⟨Nat.le_of_ble_eq_true rfl, Nat.le_of_ble_eq_true rfl⟩) (h1) rfl rfl rfl (Nat.le_of_ble_eq_true rfl) dJx4a65c_add_7a177_2 (by dsimp only; omega) (by dsimp only; omega) (fun w hp => ?_)
  subst hp
  refine v_aload_n C dJx4a65c_add_7a177_5 rfl ?_
  refine v_dup C rfl dJx4a65c_add_7a177_6 ?_
  refine v_getf C g63 h1 rfl dJx4a65c_add_7a177_7 ?_
  refine v_iconst C dJx4a65c_add_7a177_10 ?_
  refine v_iadd C dJx4a65c_add_7a177_11 ?_
  refine v_putf C p63 h1 rfl rfl (Nat.le_of_ble_eq_true rfl) dJx4a65c_add_7a177_12 ?_
  refine v_upd h1 (fun w h1 hF9 hE9 => ?_)
  have hA := hA.fr hF9 (fun h9 => by have h8 : T + 1 = T := h9; omega)
  have hM := hM.fr hF9 (fun t u h9 => by have h7 := hU t u; have h8 : t = T := h9; omega)
  have hv := hF9 _ _ _ (fun h9 => by have h8 : tv = T := h9; omega) hv
  have hF := hF.tr (hF9.mono (fun t h9 => by have h8 : t = T := h9; show t = T ∨ t = T + 1 ∨ t = 0; omega))
  refine v_aload_n C dJx4a65c_add_7a177_15 rfl ?_
  refine v_getf C g48 h1 rfl dJx4a65c_add_7a177_16 ?_
  refine v_dup C rfl dJx4a65c_add_7a177_19 ?_
  refine v_istore_n C dJx4a65c_add_7a177_20 bsl_5_3 (by decide) rfl ?_
  refine v_aload_n C dJx4a65c_add_7a177_21 rfl ?_
  refine v_getf C g9 h1 rfl dJx4a65c_add_7a177_22 ?_
  refine v_dup C rfl dJx4a65c_add_7a177_25 ?_
  refine v_astore C dJx4a65c_add_7a177_26 bsl_5_4 (by decide) rfl ?_
  refine v_alenA C hA (by omega) dJx4a65c_add_7a177_28 ?_
  refine v_icmp_ne C (⟨by omega, by omega⟩) (⟨by omega, by omega⟩) (tgt := 38) dJx4a65c_add_7a177_29 (by decide) (fun c_29 => ?_) (fun c_29 => ?_)
  · refine v_wide (k' := 1) (z' := (n + n / 2 + 10).toNat) (by omega) (by omega) ?_
    exact J38 w kq _ cap g ⟨h1, hA, hb, hg⟩ (by omega) hM hv hF
  · refine v_aload_n C dJx4a65c_add_7a177_32 rfl ?_
    refine v_callVr C (q := (RJx4a65c, TJx4a65c, 3)) (As := []) (rest := []) (c_Jx4a65c_grow_d5877 ⟨h1, hA, hb, hg⟩ ⟨by omega, by omega⟩ htv.1 hM hU hq hca) (cwV 0 hts gJx4a65c_add_7a177_Jx4a65c_grow_d5877 rfl rfl rfl (by decide +kernel) ⟨Nat.le_of_ble_eq_true rfl, Nat.le_of_ble_eq_true rfl⟩) (h1) rfl rfl rfl (Nat.le_of_ble_eq_true rfl) dJx4a65c_add_7a177_33 (by dsimp only; omega) (by dsimp only; omega) (fun x_33 w hp => ?_)
    obtain ⟨k9, c9, g9, rfl, ⟨h1, hA, hb, hg⟩, hc9, hF9⟩ := hp
    have hM := hM.fr hF9 (fun t u h9 => by have h7 := hU t u; have h8 : t = T ∨ t = T + 1 ∨ t = 0 := h9; omega)
    have hv := hF9 _ _ _ (fun h9 => by have h8 : tv = T ∨ tv = T + 1 ∨ tv = 0 := h9; omega) hv
    have hF := hF.tr (hF9.mono (fun t h9 => by have h8 : t = T ∨ t = T + 1 ∨ t = 0 := h9; show t = T ∨ t = T + 1 ∨ t = 0; omega))
    refine v_astore C dJx4a65c_add_7a177_36 bsl_5_4 (by decide) rfl ?_
    refine v_wide (k' := 1) (z' := (n + n / 2 + 10).toNat) (by omega) (by omega) ?_
    exact J38 w k9 _ c9 g9 ⟨h1, hA, hb, hg⟩ hc9 hM hv hF
set_option maxRecDepth 100000 in
set_option maxHeartbeats 400000 in
theorem c_Jx4a65c_fastRemove_b59b0 {G : GG} {l : Launch} {w : Wd} {r : Nat} {T : Nat} {n : Int} {L : Int → Nat} {mc cap : Int} {kq : Nat} {g : Int → Option Nat} {i : Int} {ci : Nat} {q0 : vw_C} {U : Nat → Prop}  (hB : LR G w T r mc kq cap g n L) (hi : 0 ≤ i ∧ i < n) (hT : 0 < T) (hM : Mem w U ci n L) (hU : ∀ t, U t → t ≠ T ∧ t ≠ T + 1 ∧ t ≠ 0) (hq : vwCl[ci]? = some q0) (hca : (q0.1, "java/lang/Object") ∈ kkC) : MG G l yJx4a65c_fastRemove_b59b0 wsJx4a65c_fastRemove_b59b0 2 80 (0) (0) [.ref r, .ref kq, .int (iI i)] w (pV (fun (w' : Wd) => ListAt G w' T r (n - 1) (delA L i) ∧ Fr (fun t => t = T ∨ t = T + 1 ∨ t = 0) w w')) := by
  refine MG.of (cc := cJx4a65c_fastRemove_b59b0) (nL := 4) (ret := none) (ll := [some (.ref r), some (.ref kq), some (.int (iI i)), none]) (by decide) rfl (Nat.le_of_ble_eq_true rfl) rfl ?_
  intro p e s m args below meth c C
  have hts := C.2.2.2.2.1
  have p48 : PutF G s m args 48 2 2 (.int) := putF_of C 2 2 tyJx4a65c tyJx4a65c_ok nmJx4a65c (T := TJx4a65c) (N := 3) (Cn := RJx4a65c) (ref := "java/util/ArrayList") rfl (by decide) (fun _ h => List.mem_cons_of_mem _ (List.mem_append_right _ (h))) (List.mem_of_getElem? (i := 3) rfl) (fun _ h => h) rfl (by decide +kernel)
  have g63 : GetF G s m args 63 2 0 := getF_of C 2 0 (T := TJx4a65c) (N := 3) (Cn := RJx4a65c) (ref := "java/util/ArrayList") rfl (by decide) (fun _ h => List.mem_cons_of_mem _ (List.mem_append_right _ (h))) (List.mem_of_getElem? (i := 1) rfl) (fun x9 h9 => u_same (hts (.sameField "java/util/ArrayList" "java/util/AbstractList" "modCount" "I") (List.mem_of_getElem? (i := 2) rfl)) x9 h9)
  have p63 : PutF G s m args 63 2 0 (.int) := putF_of C 2 0 tyJx4a65c tyJx4a65c_ok nmJx4a65c (T := TJx4a65c) (N := 3) (Cn := RJx4a65c) (ref := "java/util/ArrayList") rfl (by decide) (fun _ h => List.mem_cons_of_mem _ (List.mem_append_right _ (h))) (List.mem_of_getElem? (i := 1) rfl) (fun x9 h9 => u_same (hts (.sameField "java/util/ArrayList" "java/util/AbstractList" "modCount" "I") (List.mem_of_getElem? (i := 2) rfl)) x9 h9) rfl (by decide +kernel)
  have g48 : GetF G s m args 48 2 2 := getF_of C 2 2 (T := TJx4a65c) (N := 3) (Cn := RJx4a65c) (ref := "java/util/ArrayList") rfl (by decide) (fun _ h => List.mem_cons_of_mem _ (List.mem_append_right _ (h))) (List.mem_of_getElem? (i := 3) rfl) (fun _ h => h)
  refine poV (P := fun PO => V G p l e _ s m args below meth c (MQW G below args s _ _ (pV PO)) w 0 0 0 _ []) (fun PO hPO => ?_)
  obtain ⟨w0, hw0⟩ : ∃ z, z = w := ⟨_, rfl⟩
  rw [← hw0] at hPO
  have hF : Fr (fun t => t = T ∨ t = T + 1 ∨ t = 0) w0 w := by rw [hw0]; exact Fr.rf
  obtain ⟨h1, hA, hb, hg⟩ := hB
  have h2 := hA.arr (by omega)
  have J34 : ∀ (w : Wd) (g9 : Int → Option Nat), (w r = some (T, .inr (2, [.int (iI (mc + 1)), .ref kq, .int (iI n)]))) → (w kq = some (T + 1, .inl (gO G, aQ cap g9))) → (∀ j, 0 ≤ j → j < n - 1 → g9 j = some (delA L i j)) → (Fr (fun t => t = T ∨ t = T + 1 ∨ t = 0) w0 w) → V G p l e { frames := 2, cells := 0, slots := 0, locals := 80 } s m args below meth c (MQW G below args s (0) (0) (pV PO)) w (0) (0) 34 [some (.ref r), some (.ref kq), some (.int (iI i)), some (.int (iI (n - 1)))] [] := by
    intro w g9 h1 h2 hg9 hF
    refine v_aload_n C dJx4a65c_fastRemove_b59b0_34 rfl ?_
    refine v_aload_n C dJx4a65c_fastRemove_b59b0_35 rfl ?_
    refine v_iload_n C dJx4a65c_fastRemove_b59b0_36 rfl ?_
    refine v_dup_x1 C rfl rfl dJx4a65c_fastRemove_b59b0_37 ?_
    refine v_putf C p48 h1 rfl rfl (Nat.le_of_ble_eq_true rfl) dJx4a65c_fastRemove_b59b0_38 ?_
    refine v_upd h1 (fun w h1 hF9 hE9 => ?_)
    have h2 := hF9 _ _ _ (fun h9 => by have h8 : T + 1 = T := h9; omega) h2
    have hF := hF.tr (hF9.mono (fun t h9 => by have h8 : t = T := h9; show t = T ∨ t = T + 1 ∨ t = 0; omega))
    refine v_null C dJx4a65c_fastRemove_b59b0_41 ?_
    refine v_aastN C h2 (⟨by omega, by omega⟩) (by omega) (by omega) dJx4a65c_fastRemove_b59b0_42 ?_
    refine v_upd h2 (fun w h2 hF9 hE9 => ?_)
    have h1 := hF9 _ _ _ (fun h9 => by have h8 : T = T + 1 := h9; omega) h1
    have hF := hF.tr (hF9.mono (fun t h9 => by have h8 : t = T + 1 := h9; show t = T ∨ t = T + 1 ∨ t = 0; omega))
    exact v_vret C rfl dJx4a65c_fastRemove_b59b0_43 (by omega) (by omega) (hPO _ ⟨⟨_, kq, cap, _, h1, Or.inr ⟨h2, by omega⟩, ⟨by omega, by omega, by omega⟩, fun j a b => by rw [upQ_ne (by omega)]; exact hg9 j a b⟩, hF⟩)
  refine v_aload_n C dJx4a65c_fastRemove_b59b0_0 rfl ?_
  refine v_dup C rfl dJx4a65c_fastRemove_b59b0_1 ?_
  refine v_getf C g63 h1 rfl dJx4a65c_fastRemove_b59b0_2 ?_
  refine v_iconst C dJx4a65c_fastRemove_b59b0_5 ?_
  refine v_iadd C dJx4a65c_fastRemove_b59b0_6 ?_
  refine v_putf C p63 h1 rfl rfl (Nat.le_of_ble_eq_true rfl) dJx4a65c_fastRemove_b59b0_7 ?_
  refine v_upd h1 (fun w h1 hF9 hE9 => ?_)
  have h2 := hF9 _ _ _ (fun h9 => by have h8 : T + 1 = T := h9; omega) h2
  have hM := hM.fr hF9 (fun t u h9 => by have h7 := hU t u; have h8 : t = T := h9; omega)
  have hF := hF.tr (hF9.mono (fun t h9 => by have h8 : t = T := h9; show t = T ∨ t = T + 1 ∨ t = 0; omega))
  refine v_aload_n C dJx4a65c_fastRemove_b59b0_10 rfl ?_
  refine v_getf C g48 h1 rfl dJx4a65c_fastRemove_b59b0_11 ?_
  refine v_iconst C dJx4a65c_fastRemove_b59b0_14 ?_
  refine v_isub C dJx4a65c_fastRemove_b59b0_15 ?_
  refine v_dup C rfl dJx4a65c_fastRemove_b59b0_16 ?_
  refine v_istore_n C dJx4a65c_fastRemove_b59b0_17 bsl_4_3 (by decide) rfl ?_
  refine v_iload_n C dJx4a65c_fastRemove_b59b0_18 rfl ?_
  refine v_icmp_le C (⟨by omega, by omega⟩) (⟨by omega, by omega⟩) (tgt := 34) dJx4a65c_fastRemove_b59b0_19 (by decide) (fun c_19 => ?_) (fun c_19 => ?_)
  · exact J34 w g h1 h2 (fun j a b => by rw [delA_lo (by omega)]; exact hg j a (by omega)) hF
  · refine v_aload_n C dJx4a65c_fastRemove_b59b0_22 rfl ?_
    refine v_iload_n C dJx4a65c_fastRemove_b59b0_23 rfl ?_
    refine v_iconst C dJx4a65c_fastRemove_b59b0_24 ?_
    refine v_iadd C dJx4a65c_fastRemove_b59b0_25 ?_
    refine v_aload_n C dJx4a65c_fastRemove_b59b0_26 rfl ?_
    refine v_iload_n C dJx4a65c_fastRemove_b59b0_27 rfl ?_
    refine v_iload_n C dJx4a65c_fastRemove_b59b0_28 rfl ?_
    refine v_iload_n C dJx4a65c_fastRemove_b59b0_29 rfl ?_
    refine v_isub C dJx4a65c_fastRemove_b59b0_30 ?_
    refine v_copyQ C h2 h2 (List.mem_of_getElem? (i := 4) rfl) (List.mem_of_getElem? (i := 5) rfl) (List.mem_of_getElem? (i := 6) rfl) (List.mem_of_getElem? (i := 7) rfl) (⟨by omega, by omega, by omega⟩) (⟨by omega, by omega, by omega, by omega⟩) (fun j h8 h9 b e => hM.hel hg j (by omega) (by omega) b e) hq hca (Nat.le_of_ble_eq_true rfl) (Nat.le_of_ble_eq_true rfl) dJx4a65c_fastRemove_b59b0_31 ?_
    refine v_upd h2 (fun w h2 hF9 hE9 => ?_)
    have h1 := hF9 _ _ _ (fun h9 => by have h8 : T = T + 1 := h9; omega) h1
    have hM := hM.fr hF9 (fun t u h9 => by have h7 := hU t u; have h8 : t = T + 1 := h9; omega)
    have hF := hF.tr (hF9.mono (fun t h9 => by have h8 : t = T + 1 := h9; show t = T ∨ t = T + 1 ∨ t = 0; omega))
    exact J34 w _ h1 h2 (fun j a b => by
      by_cases q : j < i
      · rw [delA_lo q, cpI_out (by omega)]; exact hg j a (by omega)
      · rw [delA_hi (by omega), cpI_in ⟨by omega, by omega⟩, show i + 1 + (j - i) = j + 1 by omega]; exact hg _ (by omega) (by omega)) hF
set_option maxRecDepth 100000 in
set_option maxHeartbeats 400000 in
theorem c_Jx4a65c_remove_915e3 {G : GG} {l : Launch} {w : Wd} {r : Nat} {T : Nat} {n : Int} {L : Int → Nat} {i : Int} {ci : Nat} {q0 : vw_C} {U : Nat → Prop}  (hB : ListAt G w T r n L) (hi : 0 ≤ i ∧ i < n) (hT : 0 < T) (hM : Mem w U ci n L) (hU : ∀ t, U t → t ≠ T ∧ t ≠ T + 1 ∧ t ≠ 0) (hq : vwCl[ci]? = some q0) (hca : (q0.1, "java/lang/Object") ∈ kkC) : MG G l yJx4a65c_remove_915e3 wsJx4a65c_remove_915e3 3 120 (0) (0) [.ref r, .int (iI i)] w (pR (fun (x : Option Nat) (w' : Wd) => x = some (L i) ∧ ListAt G w' T r (n - 1) (delA L i) ∧ Fr (fun t => t = T ∨ t = T + 1 ∨ t = 0) w w')) := by
  refine MG.of (cc := cJx4a65c_remove_915e3) (nL := 4) (ret := (some (.object "java/lang/Object"))) (ll := [some (.ref r), some (.int (iI i)), none, none]) (by decide) rfl (Nat.le_of_ble_eq_true rfl) rfl ?_
  intro p e s m args below meth c C
  have hts := C.2.2.2.2.1
  have g48 : GetF G s m args 48 2 2 := getF_of C 2 2 (T := TJx4a65c) (N := 3) (Cn := RJx4a65c) (ref := "java/util/ArrayList") rfl (by decide) (fun _ h => List.mem_cons_of_mem _ (List.mem_append_right _ (h))) (List.mem_of_getElem? (i := 1) rfl) (fun _ h => h)
  have g9 : GetF G s m args 9 2 1 := getF_of C 2 1 (T := TJx4a65c) (N := 3) (Cn := RJx4a65c) (ref := "java/util/ArrayList") rfl (by decide) (fun _ h => List.mem_cons_of_mem _ (List.mem_append_right _ (h))) (List.mem_of_getElem? (i := 2) rfl) (fun _ h => h)
  refine poR (P := fun PO => V G p l e _ s m args below meth c (MQW G below args s _ _ (pR PO)) w 0 0 0 _ []) (fun PO hPO => ?_)
  obtain ⟨w0, hw0⟩ : ∃ z, z = w := ⟨_, rfl⟩
  rw [← hw0] at hPO
  have hF : Fr (fun t => t = T ∨ t = T + 1 ∨ t = 0) w0 w := by rw [hw0]; exact Fr.rf
  obtain ⟨mc, kq, cap, g, h1, hA, hb, hg⟩ := hB
  have h2 := hA.arr (by omega)
  refine v_iload_n C dJx4a65c_remove_915e3_0 rfl ?_
  refine v_aload_n C dJx4a65c_remove_915e3_1 rfl ?_
  refine v_getf C g48 h1 rfl dJx4a65c_remove_915e3_2 ?_
  refine v_callSi C (b := 0) (t := 0) (ci := 0) (fs := []) (q := (RX7, TX7, 33)) (As := [_, _]) (rest := []) (c_J15_checkIndex_7cf53 hi ⟨by omega, by omega⟩) (va_cwS 2 hts gJx4a65c_remove_915e3_J15_checkIndex_7cf53 rfl rfl rfl (by decide +kernel) ⟨Nat.le_of_ble_eq_true rfl, Nat.le_of_ble_eq_true rfl⟩) rfl rfl (Nat.le_of_ble_eq_true rfl) dJx4a65c_remove_915e3_5 (by dsimp only; omega) (by dsimp only; omega) (fun x_5 w hp => ?_)
  obtain ⟨hx_5, rfl⟩ := hp
  refine v_wide (k' := 0) (z' := 0) (Nat.le_refl _) (Nat.le_refl _) ?_
  refine v_pop C rfl dJx4a65c_remove_915e3_8 ?_
  refine v_aload_n C dJx4a65c_remove_915e3_9 rfl ?_
  refine v_getf C g9 h1 rfl dJx4a65c_remove_915e3_10 ?_
  refine v_astore_n C dJx4a65c_remove_915e3_13 bsl_4_2 (by decide) rfl ?_
  refine v_aload_n C dJx4a65c_remove_915e3_14 rfl ?_
  refine v_iload_n C dJx4a65c_remove_915e3_15 rfl ?_
  refine v_aald C h2 (⟨by omega, by omega⟩) (by omega) (by omega) dJx4a65c_remove_915e3_16 ?_
  rw [hg i hi.1 hi.2]
  refine v_astore_n C dJx4a65c_remove_915e3_17 bsl_4_3 (by decide) rfl ?_
  refine v_aload_n C dJx4a65c_remove_915e3_18 rfl ?_
  refine v_aload_n C dJx4a65c_remove_915e3_19 rfl ?_
  refine v_iload_n C dJx4a65c_remove_915e3_20 rfl ?_
  refine v_callVv C (q := (RJx4a65c, TJx4a65c, 3)) (As := [_, _]) (rest := []) (c_Jx4a65c_fastRemove_b59b0 ⟨h1, hA, hb, hg⟩ hi hT hM hU hq hca) (cwV 2 hts gJx4a65c_remove_915e3_Jx4a65c_fastRemove_b59b0 rfl rfl rfl (by decide +kernel) ⟨Nat.le_of_ble_eq_true rfl, Nat.le_of_ble_eq_true rfl⟩) (h1) rfl rfl rfl (Nat.le_of_ble_eq_true rfl) dJx4a65c_remove_915e3_21 (by dsimp only; omega) (by dsimp only; omega) (fun w hp => ?_)
  obtain ⟨hL2, hF9⟩ := hp
  have hF := hF.tr hF9
  refine v_wide (k' := 0) (z' := 0) (Nat.le_refl _) (Nat.le_refl _) ?_
  refine v_aload_n C dJx4a65c_remove_915e3_24 rfl ?_
  exact v_aret C rfl (Or.inl ⟨_, rfl⟩) dJx4a65c_remove_915e3_25 (by omega) (by omega) (hPO _ _ ⟨rfl, hL2, hF⟩)
set_option maxRecDepth 100000 in
set_option maxHeartbeats 400000 in
theorem c_Jx4a65c_clear_da8c8 {G : GG} {l : Launch} {w : Wd} {r : Nat} {T : Nat} {n : Int} {L : Int → Nat} (hB : ListAt G w T r n L) : MG G l yJx4a65c_clear_da8c8 wsJx4a65c_clear_da8c8 1 40 (0) (0) [.ref r] w (pV (fun (w' : Wd) => ListAt G w' T r 0 L ∧ Fr (fun t => t = T ∨ t = T + 1 ∨ t = 0) w w')) := by
  refine MG.of (cc := cJx4a65c_clear_da8c8) (nL := 4) (ret := none) (ll := [some (.ref r), none, none, none]) (by decide) rfl (Nat.le_of_ble_eq_true rfl) rfl ?_
  intro p e s m args below meth c C
  have hts := C.2.2.2.2.1
  have g63 : GetF G s m args 63 2 0 := getF_of C 2 0 (T := TJx4a65c) (N := 3) (Cn := RJx4a65c) (ref := "java/util/ArrayList") rfl (by decide) (fun _ h => List.mem_cons_of_mem _ (List.mem_append_right _ (h))) (List.mem_of_getElem? (i := 1) rfl) (fun x9 h9 => u_same (hts (.sameField "java/util/ArrayList" "java/util/AbstractList" "modCount" "I") (List.mem_of_getElem? (i := 2) rfl)) x9 h9)
  have p63 : PutF G s m args 63 2 0 (.int) := putF_of C 2 0 tyJx4a65c tyJx4a65c_ok nmJx4a65c (T := TJx4a65c) (N := 3) (Cn := RJx4a65c) (ref := "java/util/ArrayList") rfl (by decide) (fun _ h => List.mem_cons_of_mem _ (List.mem_append_right _ (h))) (List.mem_of_getElem? (i := 1) rfl) (fun x9 h9 => u_same (hts (.sameField "java/util/ArrayList" "java/util/AbstractList" "modCount" "I") (List.mem_of_getElem? (i := 2) rfl)) x9 h9) rfl (by decide +kernel)
  have g9 : GetF G s m args 9 2 1 := getF_of C 2 1 (T := TJx4a65c) (N := 3) (Cn := RJx4a65c) (ref := "java/util/ArrayList") rfl (by decide) (fun _ h => List.mem_cons_of_mem _ (List.mem_append_right _ (h))) (List.mem_of_getElem? (i := 3) rfl) (fun _ h => h)
  have g48 : GetF G s m args 48 2 2 := getF_of C 2 2 (T := TJx4a65c) (N := 3) (Cn := RJx4a65c) (ref := "java/util/ArrayList") rfl (by decide) (fun _ h => List.mem_cons_of_mem _ (List.mem_append_right _ (h))) (List.mem_of_getElem? (i := 4) rfl) (fun _ h => h)
  have p48 : PutF G s m args 48 2 2 (.int) := putF_of C 2 2 tyJx4a65c tyJx4a65c_ok nmJx4a65c (T := TJx4a65c) (N := 3) (Cn := RJx4a65c) (ref := "java/util/ArrayList") rfl (by decide) (fun _ h => List.mem_cons_of_mem _ (List.mem_append_right _ (h))) (List.mem_of_getElem? (i := 4) rfl) (fun _ h => h) rfl (by decide +kernel)
  refine poV (P := fun PO => V G p l e _ s m args below meth c (MQW G below args s _ _ (pV PO)) w 0 0 0 _ []) (fun PO hPO => ?_)
  obtain ⟨w0, hw0⟩ : ∃ z, z = w := ⟨_, rfl⟩
  rw [← hw0] at hPO
  have hF : Fr (fun t => t = T ∨ t = T + 1 ∨ t = 0) w0 w := by rw [hw0]; exact Fr.rf
  obtain ⟨mc, kq, cap, g, h1, hA, hb, hg⟩ := hB
  refine v_aload_n C dJx4a65c_clear_da8c8_0 rfl ?_
  refine v_dup C rfl dJx4a65c_clear_da8c8_1 ?_
  refine v_getf C g63 h1 rfl dJx4a65c_clear_da8c8_2 ?_
  refine v_iconst C dJx4a65c_clear_da8c8_5 ?_
  refine v_iadd C dJx4a65c_clear_da8c8_6 ?_
  refine v_putf C p63 h1 rfl rfl (Nat.le_of_ble_eq_true rfl) dJx4a65c_clear_da8c8_7 ?_
  refine v_upd h1 (fun w h1 hF9 hE9 => ?_)
  have hA := hA.fr hF9 (fun h9 => by have h8 : T + 1 = T := h9; omega)
  have hF := hF.tr (hF9.mono (fun t h9 => by have h8 : t = T := h9; show t = T ∨ t = T + 1 ∨ t = 0; omega))
  refine v_aload_n C dJx4a65c_clear_da8c8_10 rfl ?_
  refine v_getf C g9 h1 rfl dJx4a65c_clear_da8c8_11 ?_
  refine v_astore_n C dJx4a65c_clear_da8c8_14 bsl_4_1 (by decide) rfl ?_
  refine v_aload_n C dJx4a65c_clear_da8c8_15 rfl ?_
  refine v_getf C g48 h1 rfl dJx4a65c_clear_da8c8_16 ?_
  refine v_istore_n C dJx4a65c_clear_da8c8_19 bsl_4_2 (by decide) rfl ?_
  refine v_aload_n C dJx4a65c_clear_da8c8_20 rfl ?_
  refine v_iconst C dJx4a65c_clear_da8c8_21 ?_
  refine v_dup_x1 C rfl rfl dJx4a65c_clear_da8c8_22 ?_
  refine v_putf C p48 h1 rfl rfl (Nat.le_of_ble_eq_true rfl) dJx4a65c_clear_da8c8_23 ?_
  refine v_upd h1 (fun w h1 hF9 hE9 => ?_)
  have hA := hA.fr hF9 (fun h9 => by have h8 : T + 1 = T := h9; omega)
  have hF := hF.tr (hF9.mono (fun t h9 => by have h8 : t = T := h9; show t = T ∨ t = T + 1 ∨ t = 0; omega))
  refine v_istore_n C dJx4a65c_clear_da8c8_26 bsl_4_3 (by decide) rfl ?_
  have L27 : ∀ (N : Nat) (w : Wd) (j9 : Int) (g : Int → Option Nat), (w r = some (T, .inr (2, [.int (iI (mc + 1)), .ref kq, .int (iI 0)]))) → (LA G w T kq cap g) → (Fr (fun t => t = T ∨ t = T + 1 ∨ t = 0) w0 w) → (0 ≤ j9 ∧ j9 ≤ n) → (n - j9).toNat < N → V G p l e { frames := 1, cells := 0, slots := 0, locals := 40 } s m args below meth c (MQW G below args s (0) (0) (pV PO)) w (0) (0) 27 [some (.ref r), some (.ref kq), some (.int (iI n)), some (.int (iI j9))] [] := by
    intro N
    induction N with
    | zero => intro w j9 g h1 hA hF hj hm; exact absurd hm (Nat.not_lt_zero _)
    | succ N ih =>
      intro w j9 g h1 hA hF hj hm
      refine v_iload_n C dJx4a65c_clear_da8c8_27 rfl ?_
      refine v_iload_n C dJx4a65c_clear_da8c8_28 rfl ?_
      refine v_icmp_ge C (⟨by omega, by omega⟩) (⟨by omega, by omega⟩) (tgt := 42) dJx4a65c_clear_da8c8_29 (by decide) (fun c_29 => ?_) (fun c_29 => ?_)
      · exact v_vret C rfl dJx4a65c_clear_da8c8_42 (by omega) (by omega) (hPO _ ⟨⟨_, kq, cap, g, h1, hA, ⟨by omega, by omega, by omega⟩, fun j a b => by omega⟩, hF⟩)
      · have h2 := hA.arr (by omega)
        refine v_aload_n C dJx4a65c_clear_da8c8_32 rfl ?_
        refine v_iload_n C dJx4a65c_clear_da8c8_33 rfl ?_
        refine v_null C dJx4a65c_clear_da8c8_34 ?_
        refine v_aastN C h2 (⟨by omega, by omega⟩) (by omega) (by omega) dJx4a65c_clear_da8c8_35 ?_
        refine v_upd h2 (fun w h2 hF9 hE9 => ?_)
        have h1 := hF9 _ _ _ (fun h9 => by have h8 : T = T + 1 := h9; omega) h1
        have hF := hF.tr (hF9.mono (fun t h9 => by have h8 : t = T + 1 := h9; show t = T ∨ t = T + 1 ∨ t = 0; omega))
        refine v_iinc C dJx4a65c_clear_da8c8_36 rfl bsl_4_3 (by decide) rfl ?_
        refine v_goto C (tgt := 27) dJx4a65c_clear_da8c8_39 (by decide) ?_
        exact ih w (j9 + 1) _ h1 (Or.inr ⟨h2, by omega⟩) hF ⟨by omega, by omega⟩ (by omega)
  exact L27 _ w 0 g h1 hA hF ⟨by omega, by omega⟩ (Nat.lt_succ_self _)
