
set_option maxRecDepth 100000 in
set_option maxHeartbeats 400000 in
theorem c_X4_append {G : GG} {l : Launch} {w : Wd} {r : Nat} {T bt ml vk : Nat} {len cap n vcap : Int} {b vf : Int → Int} {M : Int → Nat} {t9 s9 pl lt ls lt9 ls9 cap2 : Int} {a : Nat} {L : List (Int × Int)} {bf : Int → Int} (hB : RowR G w T r bt ml vk len cap b n M vcap vf) (hM : 0 < n → ∃ q1 q2, w (M (n - 1)) = some (100 + 4 * M (n - 1), .inr (5, [.long (lI lt), .long (lI ls), q1, q2]))) (hMo : MomAt G w a t9 s9 pl L.length (pwL L) (vlL L) bf) (hT : 0 < T ∧ T < 90) (ht : 0 ≤ t9 ∧ t9 < 1152921504606846976 ∧ 0 ≤ s9 ∧ s9 < 1152921504606846976) (hl : 0 ≤ lt9 ∧ lt9 ≤ t9 ∧ -1 ≤ ls9 ∧ ls9 < 1152921504606846976 ∧ (t9 = lt9 → ls9 < s9)) (hlt : lt9 = (if n = 0 then 0 else lt)) (hls : ls9 = (if n = 0 then -1 else ls)) (hS : Srt L.length (pwL L)) (hV : ∀ j : Int, 0 ≤ j → j < (L.length : Int) → 0 ≤ vlL L j ∧ vlL L j ≤ 8) (hc : Cap cap (len + (encM2 t9 s9 lt9 ls9 L).length) cap2) (hc2 : cap2 ≤ 1000000) (hfit : len + (encM2 t9 s9 lt9 ls9 L).length ≤ 60000) (hn : n ≤ 10000000) (hMm : Mem w (fun t => t % 4 = 0 ∧ 100 ≤ t) 5 n M) : MG G l yX4_append wsX4_append 8 320 (((cap2 - cap).toNat + 1 + (gvc vcap L - vcap).toNat)) (((2 * (cap2 - cap)).toNat + (n + n / 2 + 10).toNat + (2 * (gvc vcap L - vcap)).toNat)) [.ref r, .ref a] w (pI (fun (x : Int) (w' : Wd) => x = 1 ∧ (∃ vk2 f2, RowR G w' T r bt ml vk2 (len + (encM2 t9 s9 lt9 ls9 L).length) cap2 (putL b len (encM2 t9 s9 lt9 ls9 L)) (n + 1) (upA M n a) (gvc vcap L) f2 ∧ ext f2 (gvc vcap L) = sfold (ext vf vcap) L) ∧ MomAt G w' a t9 s9 len L.length (pwL L) (vlL L) bf ∧ Fr (fun t => t = T ∨ t = T + 1 ∨ t = T + 2 ∨ t = T + 3 ∨ t = T + 4 ∨ t = T + 5 ∨ t = 0 ∨ t = 100 + 4 * a) w w')) := by
  refine MG.of (cc := cX4_append) (nL := 4) (ret := (some .boolean)) (ll := [some (.ref r), some (.ref a), none, none]) (by decide) rfl (Nat.le_of_ble_eq_true rfl) rfl ?_
  intro p e s m args below meth c C
  have hts := C.2.2.2.2.1
  have g12 : GetF G s m args 12 7 0 := getF_of C 7 0 (T := TX4) (N := 3) (Cn := RX4) (ref := "TraceBook$Row") rfl (by decide) (fun _ h => List.mem_cons_of_mem _ (List.mem_append_left _ (List.mem_append_left _ (List.mem_append_left _ (List.mem_append_left _ (List.mem_append_right _ (h))))))) (List.mem_of_getElem? (i := 1) rfl) (fun _ h => h)
  have g77 : GetN G s m args 77 3 1 := getN_of C 3 1 (T := TX0) (N := 2) (Cn := RX0) (ref := "TraceBook$Bytes") rfl (by decide) (fun _ h => List.mem_cons_of_mem _ (List.mem_append_left _ (List.mem_append_left _ (List.mem_append_left _ (List.mem_append_right _ (h)))))) (List.mem_of_getElem? (i := 21) rfl) (fun _ h => h)
  have p86 : PutN G s m args 86 5 3 (.int) := putN_of C 5 3 tyX2 tyX2_ok nmX2 (T := TX2) (N := 4) (Cn := RX2) (ref := "TraceBook$Moment") rfl (by decide) (fun _ h => List.mem_cons_of_mem _ (List.mem_append_left _ (List.mem_append_left _ (List.mem_append_right _ (h))))) (List.mem_of_getElem? (i := 22) rfl) (fun _ h => h) rfl (by decide +kernel)
  have g21 : GetF G s m args 21 7 1 := getF_of C 7 1 (T := TX4) (N := 3) (Cn := RX4) (ref := "TraceBook$Row") rfl (by decide) (fun _ h => List.mem_cons_of_mem _ (List.mem_append_left _ (List.mem_append_left _ (List.mem_append_left _ (List.mem_append_left _ (List.mem_append_right _ (h))))))) (List.mem_of_getElem? (i := 3) rfl) (fun _ h => h)
  have g93 : GetN G s m args 93 5 2 := getN_of C 5 2 (T := TX2) (N := 4) (Cn := RX2) (ref := "TraceBook$Moment") rfl (by decide) (fun _ h => List.mem_cons_of_mem _ (List.mem_append_left _ (List.mem_append_left _ (List.mem_append_right _ (h))))) (List.mem_of_getElem? (i := 23) rfl) (fun _ h => h)
  refine poI (P := fun PO => V G p l e _ s m args below meth c (MQW G below args s _ _ (pI PO)) w 0 0 0 _ []) (fun PO hPO => ?_)
  obtain ⟨w0, hw0⟩ : ∃ z, z = w := ⟨_, rfl⟩
  rw [← hw0] at hPO
  have hF : Fr (fun t => t = T ∨ t = T + 1 ∨ t = T + 2 ∨ t = T + 3 ∨ t = T + 4 ∨ t = T + 5 ∨ t = 0 ∨ t = 100 + 4 * a) w0 w := by rw [hw0]; exact Fr.rf
  obtain ⟨h1, hBy, hLs, hVa, hvc, hvf⟩ := id hB
  obtain ⟨lr, LL, hm1, hmL, hmC⟩ := hMo
  have hLr := hmL.rg
  have hn0 := hLs.rg
  have hb0 := hBy.rg
  have hge := hc.ge (by omega)
  have hgvL := gvc_b (L := L) hvc (srt_all hS)
  refine v_aload_n C dX4_append_0 rfl ?_
  refine v_getf C g12 h1 rfl dX4_append_1 ?_
  refine v_getN C g77 hBy.lenF.choose_spec rfl dX4_append_4 ?_
  refine v_istore_n C dX4_append_7 bsl_4_2 (by decide) rfl ?_
  refine v_aload_n C dX4_append_8 rfl ?_
  refine v_aload_n C dX4_append_9 rfl ?_
  refine v_callVv C (q := (RX4, TX4, 3)) (As := [_]) (rest := []) (c_X4_writeMoment hB hM ⟨lr, LL, hm1, hmL, hmC⟩ hT ht hl hlt hls hS hV hc hc2) (cwV 1 hts gX4_append_X4_writeMoment rfl rfl rfl (by decide +kernel) ⟨Nat.le_of_ble_eq_true rfl, Nat.le_of_ble_eq_true rfl⟩) (h1) rfl rfl rfl (Nat.le_of_ble_eq_true rfl) dX4_append_10 (by dsimp only; omega) (by dsimp only; omega) (fun w hp => ?_)
  obtain ⟨hBy, hF9⟩ := hp
  have h1 := hF9 _ _ _ (fun h9 => by have h8 : T = T + 1 ∨ T = T + 1 + 1 ∨ T = 0 := h9; omega) h1
  have hLs := hLs.fr hF9 (fun h9 => by have h8 : T + 3 = T + 1 ∨ T + 3 = T + 1 + 1 ∨ T + 3 = 0 := h9; omega) (fun h9 => by have h8 : T + 3 + 1 = T + 1 ∨ T + 3 + 1 = T + 1 + 1 ∨ T + 3 + 1 = 0 := h9; omega)
  have hVa := hF9 _ _ _ (fun h9 => by have h8 : T + 5 = T + 1 ∨ T + 5 = T + 1 + 1 ∨ T + 5 = 0 := h9; omega) hVa
  have hm1 := hF9 _ _ _ (fun h9 => by have h8 : 100 + 4 * a = T + 1 ∨ 100 + 4 * a = T + 1 + 1 ∨ 100 + 4 * a = 0 := h9; omega) hm1
  have hmL := hmL.fr hF9 (fun h9 => by have h8 : 101 + 4 * a = T + 1 ∨ 101 + 4 * a = T + 1 + 1 ∨ 101 + 4 * a = 0 := h9; omega) (fun h9 => by have h8 : 101 + 4 * a + 1 = T + 1 ∨ 101 + 4 * a + 1 = T + 1 + 1 ∨ 101 + 4 * a + 1 = 0 := h9; omega)
  have hmC := hmC.fr hF9 (fun h9 => by have h8 : 103 + 4 * a = T + 1 ∨ 103 + 4 * a = T + 1 + 1 ∨ 103 + 4 * a = 0 := h9; omega)
  have hMm := hMm.fr hF9 (fun t u h9 => by have h8 : t = T + 1 ∨ t = T + 1 + 1 ∨ t = 0 := h9; omega)
  have hF := hF.tr (hF9.mono (fun t h9 => by have h8 : t = T + 1 ∨ t = T + 1 + 1 ∨ t = 0 := h9; show t = T ∨ t = T + 1 ∨ t = T + 2 ∨ t = T + 3 ∨ t = T + 4 ∨ t = T + 5 ∨ t = 0 ∨ t = 100 + 4 * a; omega))
  refine v_aload_n C dX4_append_13 rfl ?_
  refine v_getf C g12 h1 rfl dX4_append_14 ?_
  refine v_getN C g77 hBy.lenF.choose_spec rfl dX4_append_17 ?_
  have hle9 := hBy.rg
  refine v_ldcI C (v := 60000) (List.mem_of_getElem? (i := 2) rfl) (by decide +kernel) dX4_append_20 ?_
  refine v_icmp_le C (⟨by omega, by omega⟩) (⟨by omega, by omega⟩) (tgt := 35) dX4_append_22 (by decide) (fun c_22 => ?_) (fun c_22 => ?_)
  · refine v_aload_n C dX4_append_35 rfl ?_
    refine v_iload_n C dX4_append_36 rfl ?_
    refine v_putN C p86 hm1 rfl rfl (Nat.le_of_ble_eq_true rfl) dX4_append_37 ?_
    refine v_upd hm1 (fun w hm1 hF9 hE9 => ?_)
    have h1 := hF9 _ _ _ (fun h9 => by have h8 : T = 100 + 4 * a := h9; omega) h1
    have hBy := hBy.fr hF9 (fun h9 => by have h8 : T + 1 = 100 + 4 * a := h9; omega) (fun h9 => by have h8 : T + 1 + 1 = 100 + 4 * a := h9; omega)
    have hLs := hLs.fr hF9 (fun h9 => by have h8 : T + 3 = 100 + 4 * a := h9; omega) (fun h9 => by have h8 : T + 3 + 1 = 100 + 4 * a := h9; omega)
    have hVa := hF9 _ _ _ (fun h9 => by have h8 : T + 5 = 100 + 4 * a := h9; omega) hVa
    have hmL := hmL.fr hF9 (fun h9 => by have h8 : 101 + 4 * a = 100 + 4 * a := h9; omega) (fun h9 => by have h8 : 101 + 4 * a + 1 = 100 + 4 * a := h9; omega)
    have hmC := hmC.fr hF9 (fun h9 => by have h8 : 103 + 4 * a = 100 + 4 * a := h9; omega)
    have hMm := hMm.upd hm1 hE9 ⟨by omega, by omega⟩
    have hF := hF.tr (hF9.mono (fun t h9 => by have h8 : t = 100 + 4 * a := h9; show t = T ∨ t = T + 1 ∨ t = T + 2 ∨ t = T + 3 ∨ t = T + 4 ∨ t = T + 5 ∨ t = 0 ∨ t = 100 + 4 * a; omega))
    refine v_aload_n C dX4_append_40 rfl ?_
    refine v_getf C g21 h1 rfl dX4_append_41 ?_
    refine v_aload_n C dX4_append_44 rfl ?_
    refine v_callVi C (q := (RJx4a65c, TJx4a65c, 3)) (As := [_]) (rest := []) (c_Jx4a65c_add_9ea2d hLs hn hMm (fun t u => by omega) hm1 (q0 := (RX2, TX2, 4)) rfl (by decide) ⟨by omega, by omega, by omega, by omega⟩) (cwV 1 hts gX4_append_Jx4a65c_add_9ea2d rfl rfl rfl (by decide +kernel) ⟨Nat.le_of_ble_eq_true rfl, Nat.le_of_ble_eq_true rfl⟩) (hLs.obj.choose_spec) rfl rfl rfl (Nat.le_of_ble_eq_true rfl) dX4_append_45 (by dsimp only; omega) (by dsimp only; omega) (fun x_45 w hp => ?_)
    obtain ⟨hx45, hLs, hF9⟩ := hp
    have h1 := hF9 _ _ _ (fun h9 => by have h8 : T = T + 3 ∨ T = T + 3 + 1 ∨ T = 0 := h9; omega) h1
    have hBy := hBy.fr hF9 (fun h9 => by have h8 : T + 1 = T + 3 ∨ T + 1 = T + 3 + 1 ∨ T + 1 = 0 := h9; omega) (fun h9 => by have h8 : T + 1 + 1 = T + 3 ∨ T + 1 + 1 = T + 3 + 1 ∨ T + 1 + 1 = 0 := h9; omega)
    have hVa := hF9 _ _ _ (fun h9 => by have h8 : T + 5 = T + 3 ∨ T + 5 = T + 3 + 1 ∨ T + 5 = 0 := h9; omega) hVa
    have hm1 := hF9 _ _ _ (fun h9 => by have h8 : 100 + 4 * a = T + 3 ∨ 100 + 4 * a = T + 3 + 1 ∨ 100 + 4 * a = 0 := h9; omega) hm1
    have hmL := hmL.fr hF9 (fun h9 => by have h8 : 101 + 4 * a = T + 3 ∨ 101 + 4 * a = T + 3 + 1 ∨ 101 + 4 * a = 0 := h9; omega) (fun h9 => by have h8 : 101 + 4 * a + 1 = T + 3 ∨ 101 + 4 * a + 1 = T + 3 + 1 ∨ 101 + 4 * a + 1 = 0 := h9; omega)
    have hmC := hmC.fr hF9 (fun h9 => by have h8 : 103 + 4 * a = T + 3 ∨ 103 + 4 * a = T + 3 + 1 ∨ 103 + 4 * a = 0 := h9; omega)
    have hF := hF.tr (hF9.mono (fun t h9 => by have h8 : t = T + 3 ∨ t = T + 3 + 1 ∨ t = 0 := h9; show t = T ∨ t = T + 1 ∨ t = T + 2 ∨ t = T + 3 ∨ t = T + 4 ∨ t = T + 5 ∨ t = 0 ∨ t = 100 + 4 * a; omega))
    refine v_pop C rfl dX4_append_48 ?_
    refine v_iconst C dX4_append_49 ?_
    refine v_istore_n C dX4_append_50 bsl_4_3 (by decide) rfl ?_
    have L51 : ∀ (N : Nat) (w : Wd) (vk9 : Nat) (i9 vc9 : Int) (f9 : Int → Int), (RowR G w T r bt ml vk9 (len + (encM2 t9 s9 lt9 ls9 L).length) cap2 (putL b len (encM2 t9 s9 lt9 ls9 L)) (n + 1) (upA M n a) vc9 f9) → (w a = some (100 + 4 * a, .inr (5, [.long (lI t9), .long (lI s9), .ref lr, .int (iI len)]))) → (ListAt G w (101 + 4 * a) lr L.length LL) → (ChAt w (103 + 4 * a) L.length LL (pwL L) (vlL L) bf) → (Fr (fun t => t = T ∨ t = T + 1 ∨ t = T + 2 ∨ t = T + 3 ∨ t = T + 4 ∨ t = T + 5 ∨ t = 0 ∨ t = 100 + 4 * a) w0 w) → (0 ≤ i9 ∧ i9 ≤ L.length) → (vcap ≤ vc9 ∧ gvc vc9 (L.drop i9.toNat) = gvc vcap L) → (sfold (ext f9 vc9) (L.drop i9.toNat) = sfold (ext vf vcap) L) → (L.length - i9).toNat < N → V G p l e { frames := 8, cells := ((cap2 - cap).toNat + 1 + (gvc vcap L - vcap).toNat), slots := ((2 * (cap2 - cap)).toNat + (n + n / 2 + 10).toNat + (2 * (gvc vcap L - vcap)).toNat), locals := 320 } s m args below meth c (MQW G below args s (((cap2 - cap).toNat + 1 + (gvc vcap L - vcap).toNat)) (((2 * (cap2 - cap)).toNat + (n + n / 2 + 10).toNat + (2 * (gvc vcap L - vcap)).toNat)) (pI PO)) w ((cap2 - cap).toNat + 1 + (vc9 - vcap).toNat) ((2 * (cap2 - cap)).toNat + (n + n / 2 + 10).toNat + (2 * (vc9 - vcap)).toNat) 51 [some (.ref r), some (.ref a), some (.int (iI len)), some (.int (iI i9))] [] := by
      intro N
      induction N with
      | zero => intro w vk9 i9 vc9 f9 hB hm1 hmL hmC hF hi hvc9 hx9 hm; exact absurd hm (Nat.not_lt_zero _)
      | succ N ih =>
        intro w vk9 i9 vc9 f9 hB hm1 hmL hmC hF hi hvc9 hx9 hm
        have hgv := gvc_b (L := L.drop i9.toNat) (c := vc9) hB.2.2.2.2.1 (fun q hq => srt_all hS q (List.mem_of_mem_drop hq))
        rw [hvc9.2] at hgv
        refine v_iload_n C dX4_append_51 rfl ?_
        refine v_aload_n C dX4_append_52 rfl ?_
        refine v_getN C g93 hm1 rfl dX4_append_53 ?_
        refine v_callVi C (q := (RJx4a65c, TJx4a65c, 3)) (As := []) (rest := [_]) (c_Jx4a65c_size_8abf5 hmL) (cwV 0 hts gX4_append_Jx4a65c_size_8abf5 rfl rfl rfl (by decide +kernel) ⟨Nat.le_of_ble_eq_true rfl, Nat.le_of_ble_eq_true rfl⟩) (hmL.obj.choose_spec) rfl rfl rfl (Nat.le_of_ble_eq_true rfl) dX4_append_56 (by dsimp only; omega) (by dsimp only; omega) (fun x_56 w hp => ?_)
        obtain ⟨hx9b, rfl⟩ := hp
        rw [hx9b]
        refine v_icmp_ge C (⟨by omega, by omega⟩) (⟨by omega, by omega⟩) (tgt := 83) dX4_append_59 (by decide) (fun c_59 => ?_) (fun c_59 => ?_)
        · refine v_iconst C dX4_append_83 ?_
          exact v_zret C rfl (by omega) dX4_append_84 (by omega) (by omega) (hPO _ _ ⟨rfl, ⟨vk9, f9, by
              rw [show L.drop i9.toNat = [] from List.drop_eq_nil_of_le (by omega)] at hvc9 hx9
              have e : vc9 = gvc vcap L := hvc9.2
              have e2 : ext f9 vc9 = sfold (ext vf vcap) L := hx9
              rw [← e]
              exact ⟨hB, e2⟩⟩, ⟨lr, LL, hm1, hmL, hmC⟩, hF⟩)
        · have eD := dropL (L := L) hi.1 (by omega : i9 < L.length)
          have hpi := hS.1 i9 hi.1 (by omega)
          have hvi := hV i9 hi.1 (by omega)
          have hg1 := gv1_b hB.2.2.2.2.1 hpi
          have hg2 := gvc_b (L := L.drop (i9 + 1).toNat) (c := gv1 vc9 (pwL L i9)) ⟨by omega, hg1.2.2⟩ (fun q hq => srt_all hS q (List.mem_of_mem_drop hq))
          have hg3 : gvc (gv1 vc9 (pwL L i9)) (L.drop (i9 + 1).toNat) = gvc vcap L := by rw [← hvc9.2, eD]; rfl
          rw [hg3] at hg2
          refine v_aload_n C dX4_append_62 rfl ?_
          refine v_aload_n C dX4_append_63 rfl ?_
          refine v_getN C g93 hm1 rfl dX4_append_64 ?_
          refine v_iload_n C dX4_append_67 rfl ?_
          refine v_callVr C (q := (RJx4a65c, TJx4a65c, 3)) (As := [_]) (rest := [_]) (c_Jx4a65c_get_915e3 hmL (i := i9) ⟨by omega, by omega⟩) (cwV 1 hts gX4_append_Jx4a65c_get_915e3 rfl rfl rfl (by decide +kernel) ⟨Nat.le_of_ble_eq_true rfl, Nat.le_of_ble_eq_true rfl⟩) (hmL.obj.choose_spec) rfl rfl rfl (Nat.le_of_ble_eq_true rfl) dX4_append_68 (by dsimp only; omega) (by dsimp only; omega) (fun x_68 w hp => ?_)
          obtain ⟨rfl, rfl⟩ := hp
          refine v_castY C ((hmC i9 (by omega) (by omega))) rfl (List.mem_of_getElem? (i := 4) rfl) rfl dX4_append_71 ?_
          refine v_callVv C (q := (RX4, TX4, 3)) (As := [_]) (rest := []) (c_X4_keepValue hB hT (hmC i9 (by omega) (by omega)) (by omega) hpi hvi) (cwV 1 hts gX4_append_X4_keepValue rfl rfl rfl (by decide +kernel) ⟨Nat.le_of_ble_eq_true rfl, Nat.le_of_ble_eq_true rfl⟩) (hB.obj.choose_spec) rfl rfl rfl (Nat.le_of_ble_eq_true rfl) dX4_append_74 (by dsimp only; omega) (by dsimp only; omega) (fun w hp => ?_)
          obtain ⟨vk2, f2, hB, hf2, hF9⟩ := hp
          have hm1 := hF9 _ _ _ (fun h9 => by have h8 : 100 + 4 * a = T ∨ 100 + 4 * a = T + 5 ∨ 100 + 4 * a = 0 := h9; omega) hm1
          have hmL := hmL.fr hF9 (fun h9 => by have h8 : 101 + 4 * a = T ∨ 101 + 4 * a = T + 5 ∨ 101 + 4 * a = 0 := h9; omega) (fun h9 => by have h8 : 101 + 4 * a + 1 = T ∨ 101 + 4 * a + 1 = T + 5 ∨ 101 + 4 * a + 1 = 0 := h9; omega)
          have hmC := hmC.fr hF9 (fun h9 => by have h8 : 103 + 4 * a = T ∨ 103 + 4 * a = T + 5 ∨ 103 + 4 * a = 0 := h9; omega)
          have hF := hF.tr (hF9.mono (fun t h9 => by have h8 : t = T ∨ t = T + 5 ∨ t = 0 := h9; show t = T ∨ t = T + 1 ∨ t = T + 2 ∨ t = T + 3 ∨ t = T + 4 ∨ t = T + 5 ∨ t = 0 ∨ t = 100 + 4 * a; omega))
          refine v_iinc C dX4_append_77 rfl bsl_4_3 (by decide) rfl ?_
          refine v_goto C (tgt := 51) dX4_append_80 (by decide) ?_
          refine v_wide (k' := (cap2 - cap).toNat + 1 + (gv1 vc9 (pwL L i9) - vcap).toNat) (z' := (2 * (cap2 - cap)).toNat + (n + n / 2 + 10).toNat + (2 * (gv1 vc9 (pwL L i9) - vcap)).toNat) (by omega) (by omega) ?_
          exact ih w vk2 (i9 + 1) (gv1 vc9 (pwL L i9)) f2 hB hm1 hmL hmC hF ⟨by omega, by omega⟩ ⟨by omega, by rw [← hvc9.2, eD]; rfl⟩ (by rw [hf2, ← hx9, eD]; rfl) (by omega)
    refine v_wide (k' := (cap2 - cap).toNat + 1 + (vcap - vcap).toNat) (z' := (2 * (cap2 - cap)).toNat + (n + n / 2 + 10).toNat + (2 * (vcap - vcap)).toNat) (by omega) (by omega) ?_
    exact L51 _ w vk 0 vcap vf ⟨h1, hBy, hLs, hVa, hvc, hvf⟩ hm1 hmL hmC hF ⟨by omega, by omega⟩ ⟨by omega, rfl⟩ rfl (Nat.lt_succ_self _)
  · exact absurd c_22 (by omega)
