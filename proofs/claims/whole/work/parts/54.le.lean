section LWS
variable {G : GG} {p : Program} {l : Launch} {e : Env} {s : State} {m : MethodId} {args : Array Value} {below : List Frame} {meth : Method} {c : Code} {Q : State → Prop} {nm9 : String} {w : Wd} {k z pc : Nat} {ll : List (Option Value)} {st : List Value} {b L : Nat} {xs : Nat → Int32} {bk mo o : Nat} {n i c0 : Int} {f : Int → Int}
set_option maxRecDepth 100000 in
set_option maxHeartbeats 1000000 in
theorem case_size (C : Cx G p s m args meth c ⟨RL, nm9, ""⟩ cL_law 8 (some .boolean) wsL_law) (hfl : l.stackTraces = false) (hX : va_X b L xs s (gH G)) (hbN : b < gN G) (hL3 : L ≤ 3584) (hi : 0 ≤ i ∧ i + 7 ≤ (L : Int)) (hL : LI G w bk mo o n c0 f k z) (hn : n < 512) (next : ∀ (w' : Wd) (c' : Int) (f' : Int → Int) (k' z' : Nat), LI G w' bk mo o (n + 1) c' f' k' z' → V G p l e room_1 s m args below meth c Q w' k' z' 1048 [some (.ref b), some (.ref bk), some (.ref mo), some (.ref o), some (.int (iI i)), none, none, none] []) : V G p l e room_1 s m args below meth c Q w k z 874 [some (.ref b), some (.ref bk), some (.ref mo), some (.ref o), some (.int (iI i)), none, none, none] [] := by
  have hts := C.2.2.2.2.1
  obtain ⟨mc, ms, P, hfit, hM, hN⟩ := J_size hL hn
  refine v_aload_n C dL_law_874 rfl ?_
  obtain ⟨fs0, hbk⟩ := hL.hbk
  refine v_callVi C (q := (RX6, TX6, 6)) (As := []) (rest := []) hM (cwV 0 hts gL_law_X6_size rfl rfl rfl (by decide +kernel) ⟨Nat.le_of_ble_eq_true rfl, Nat.le_of_ble_eq_true rfl⟩) hbk rfl rfl rfl (Nat.le_of_ble_eq_true rfl) dL_law_875 hfit.1 hfit.2 (fun x w1 hp => ?_)
  obtain ⟨⟨fs1, hmo1⟩, hx, hM2⟩ := hN x w1 hp
  refine v_aload_n C dL_law_878 rfl ?_
  refine v_callVi C (q := (RX7, TX7, 33)) (As := []) (rest := [_]) hM2 (cwV 0 hts gL_law_X7_size rfl rfl rfl (by decide +kernel) ⟨Nat.le_of_ble_eq_true rfl, Nat.le_of_ble_eq_true rfl⟩) hmo1 rfl rfl rfl (Nat.le_of_ble_eq_true rfl) dL_law_879 hfit.1 hfit.2 (fun y w2 hp2 => ?_)
  obtain ⟨rfl, c9, f9, hL2⟩ := hp2
  refine v_wide (k' := k + mc) (z' := z + ms) (Nat.le_refl _) (Nat.le_refl _) ?_
  refine v_icmp_eq C hx hx (tgt := 1048) dL_law_882 (by decide) (fun _ => ?_) (fun q => absurd rfl q)
  exact v_less (ll' := [some (.ref b), some (.ref bk), some (.ref mo), some (.ref o), some (.int (iI i)), none, none, none]) ⟨rfl, rfl, rfl, rfl, rfl, trivial⟩ (next _ _ _ _ _ hL2)
set_option maxRecDepth 100000 in
set_option maxHeartbeats 1000000 in
theorem case_byteAt (C : Cx G p s m args meth c ⟨RL, nm9, ""⟩ cL_law 8 (some .boolean) wsL_law) (hfl : l.stackTraces = false) (hX : va_X b L xs s (gH G)) (hbN : b < gN G) (hL3 : L ≤ 3584) (hi : 0 ≤ i ∧ i + 7 ≤ (L : Int)) (hL : LI G w bk mo o n c0 f k z) (hn : n < 512) (next : ∀ (w' : Wd) (c' : Int) (f' : Int → Int) (k' z' : Nat), LI G w' bk mo o (n + 1) c' f' k' z' → V G p l e room_1 s m args below meth c Q w' k' z' 1048 [some (.ref b), some (.ref bk), some (.ref mo), some (.ref o), some (.int (iI i)), none, none, none] []) : V G p l e room_1 s m args below meth c Q w k z 887 [some (.ref b), some (.ref bk), some (.ref mo), some (.ref o), some (.int (iI i)), none, none, none] [] := by
  have hts := C.2.2.2.2.1
  obtain ⟨mc, ms, P, hfit, hM, hN⟩ := J_byteAt hfl hL hn (scI_r xs (i + 1))
  refine v_aload_n C dL_law_887 rfl ?_
  refine v_aload_n C dL_law_888 rfl ?_
  refine v_iload C dL_law_889 rfl ?_
  refine v_iconst C dL_law_891 ?_
  refine v_iadd C dL_law_892 ?_
  refine v_sld C hX hbN (⟨by omega, by omega⟩) (by omega) (by omega) dL_law_893 ?_
  refine v_aload_n C dL_law_894 rfl ?_
  refine v_callH C (b := 0) (t := 0) (ci := 0) (fs := []) (q := (RX7, TX7, 33)) (As := [_, _, _]) (rest := []) hM (vx_cwSW 3 hts gL_law_L_byteAt rfl rfl rfl (by decide +kernel) ⟨Nat.le_of_ble_eq_true rfl, Nat.le_of_ble_eq_true rfl⟩) rfl rfl (Nat.le_of_ble_eq_true rfl) dL_law_895 hfit.1 hfit.2 (fun x w1 hp => ?_)
  obtain ⟨⟨fs1, hmo1⟩, hx, hM2⟩ := hN x w1 hp
  refine v_istore C dL_law_898 bsl_8_5 (by decide) rfl ?_
  refine v_aload_n C dL_law_900 rfl ?_
  refine v_aload_n C dL_law_901 rfl ?_
  refine v_iload C dL_law_902 rfl ?_
  refine v_iconst C dL_law_904 ?_
  refine v_iadd C dL_law_905 ?_
  refine v_sld C hX hbN (⟨by omega, by omega⟩) (by omega) (by omega) dL_law_906 ?_
  refine v_callVi C (q := (RX7, TX7, 33)) (As := [_]) (rest := []) hM2 (cwV 1 hts gL_law_X7_byteAt rfl rfl rfl (by decide +kernel) ⟨Nat.le_of_ble_eq_true rfl, Nat.le_of_ble_eq_true rfl⟩) hmo1 rfl rfl rfl (Nat.le_of_ble_eq_true rfl) dL_law_907 hfit.1 hfit.2 (fun y w2 hp2 => ?_)
  obtain ⟨f9, hL2, hy⟩ := hp2
  obtain ⟨fs2, hmo2⟩ := hL2.hmo
  refine v_wide (k' := k + mc) (z' := z + ms) (Nat.le_refl _) (Nat.le_refl _) ?_
  rw [nrm_e y]
  refine v_istore C dL_law_910 bsl_8_6 (by decide) rfl ?_
  refine v_aload_n C dL_law_912 rfl ?_
  refine v_callVi C (q := (RX7, TX7, 33)) (As := []) (rest := []) hL2.th (cwV 0 hts gL_law_X7_thrown rfl rfl rfl (by decide +kernel) ⟨Nat.le_of_ble_eq_true rfl, Nat.le_of_ble_eq_true rfl⟩) hmo2 rfl rfl rfl (Nat.le_of_ble_eq_true rfl) dL_law_913 hfit.1 hfit.2 (fun t w3 hp3 => ?_)
  obtain ⟨rfl, rfl⟩ := hp3
  refine v_wide (k' := k + mc) (z' := z + ms) (Nat.le_refl _) (Nat.le_refl _) ?_
  refine v_iload C dL_law_916 rfl ?_
  refine v_icmp_eq C hx hx (tgt := 923) dL_law_918 (by decide) (fun _ => ?_) (fun q => absurd rfl q)
  refine v_iload C dL_law_923 rfl ?_
  refine v_if_ne C hx (tgt := 940) dL_law_925 (by decide) (fun _ => ?_) (fun hz => ?_)
  · refine v_goto C (tgt := 1048) dL_law_940 (by decide) ?_
    exact v_less (ll' := [some (.ref b), some (.ref bk), some (.ref mo), some (.ref o), some (.int (iI i)), none, none, none]) ⟨rfl, rfl, rfl, rfl, rfl, trivial⟩ (next _ _ _ _ _ hL2)
  · refine v_aload_n C dL_law_928 rfl ?_
    refine v_iconst C dL_law_929 ?_
    refine v_lald C hL2.out (⟨by decide, by decide⟩) (Int.le_refl _) (by decide) dL_law_930 ?_
    rw [hy hz]
    refine v_iload C dL_law_931 rfl ?_
    refine v_i2l C (nrm_r y) dL_law_933 ?_
    refine v_lcmp_eq C (⟨by have := (nrm_r y).1; omega, by have := (nrm_r y).2; omega⟩) (⟨by have := (nrm_r y).1; omega, by have := (nrm_r y).2; omega⟩) (tgt := 940) dL_law_934 dL_law_935 (by decide) (fun _ => ?_) (fun q => absurd rfl q)
    refine v_goto C (tgt := 1048) dL_law_940 (by decide) ?_
    exact v_less (ll' := [some (.ref b), some (.ref bk), some (.ref mo), some (.ref o), some (.int (iI i)), none, none, none]) ⟨rfl, rfl, rfl, rfl, rfl, trivial⟩ (next _ _ _ _ _ hL2)
set_option maxRecDepth 100000 in
set_option maxHeartbeats 1000000 in
theorem case_feed (C : Cx G p s m args meth c ⟨RL, nm9, ""⟩ cL_law 8 (some .boolean) wsL_law) (hfl : l.stackTraces = false) (hX : va_X b L xs s (gH G)) (hbN : b < gN G) (hL3 : L ≤ 3584) (hi : 0 ≤ i ∧ i + 7 ≤ (L : Int)) (hL : LI G w bk mo o n c0 f k z) (hn : n < 512) (next : ∀ (w' : Wd) (c' : Int) (f' : Int → Int) (k' z' : Nat), LI G w' bk mo o (n + 1) c' f' k' z' → V G p l e room_1 s m args below meth c Q w' k' z' 1048 [some (.ref b), some (.ref bk), some (.ref mo), some (.ref o), some (.int (iI i)), none, none, none] []) : V G p l e room_1 s m args below meth c Q w k z 943 [some (.ref b), some (.ref bk), some (.ref mo), some (.ref o), some (.int (iI i)), none, none, none] [] := by
  have hts := C.2.2.2.2.1
  obtain ⟨mc, ms, P, hfit, hM, hN⟩ := J_feed hfl hL hn (scI_r xs (i + 1))
  refine v_aload_n C dL_law_943 rfl ?_
  refine v_aload_n C dL_law_944 rfl ?_
  refine v_iload C dL_law_945 rfl ?_
  refine v_iconst C dL_law_947 ?_
  refine v_iadd C dL_law_948 ?_
  refine v_sld C hX hbN (⟨by omega, by omega⟩) (by omega) (by omega) dL_law_949 ?_
  refine v_aload_n C dL_law_950 rfl ?_
  refine v_callH C (b := 0) (t := 0) (ci := 0) (fs := []) (q := (RX7, TX7, 33)) (As := [_, _, _]) (rest := []) hM (vx_cwSW 3 hts gL_law_L_feed rfl rfl rfl (by decide +kernel) ⟨Nat.le_of_ble_eq_true rfl, Nat.le_of_ble_eq_true rfl⟩) rfl rfl (Nat.le_of_ble_eq_true rfl) dL_law_951 hfit.1 hfit.2 (fun x w1 hp => ?_)
  obtain ⟨⟨fs1, hmo1⟩, hx, hM2⟩ := hN x w1 hp
  refine v_istore C dL_law_954 bsl_8_5 (by decide) rfl ?_
  refine v_aload_n C dL_law_956 rfl ?_
  refine v_aload_n C dL_law_957 rfl ?_
  refine v_iload C dL_law_958 rfl ?_
  refine v_iconst C dL_law_960 ?_
  refine v_iadd C dL_law_961 ?_
  refine v_sld C hX hbN (⟨by omega, by omega⟩) (by omega) (by omega) dL_law_962 ?_
  refine v_callVi C (q := (RX7, TX7, 33)) (As := [_]) (rest := []) hM2 (cwV 1 hts gL_law_X7_feed rfl rfl rfl (by decide +kernel) ⟨Nat.le_of_ble_eq_true rfl, Nat.le_of_ble_eq_true rfl⟩) hmo1 rfl rfl rfl (Nat.le_of_ble_eq_true rfl) dL_law_963 hfit.1 hfit.2 (fun y w2 hp2 => ?_)
  obtain ⟨f9, hL2, hy⟩ := hp2
  obtain ⟨fs2, hmo2⟩ := hL2.hmo
  refine v_wide (k' := k + mc) (z' := z + ms) (Nat.le_refl _) (Nat.le_refl _) ?_
  rw [nrm_e y]
  refine v_istore C dL_law_966 bsl_8_6 (by decide) rfl ?_
  refine v_aload_n C dL_law_968 rfl ?_
  refine v_callVi C (q := (RX7, TX7, 33)) (As := []) (rest := []) hL2.th (cwV 0 hts gL_law_X7_thrown rfl rfl rfl (by decide +kernel) ⟨Nat.le_of_ble_eq_true rfl, Nat.le_of_ble_eq_true rfl⟩) hmo2 rfl rfl rfl (Nat.le_of_ble_eq_true rfl) dL_law_969 hfit.1 hfit.2 (fun t w3 hp3 => ?_)
  obtain ⟨rfl, rfl⟩ := hp3
  refine v_wide (k' := k + mc) (z' := z + ms) (Nat.le_refl _) (Nat.le_refl _) ?_
  refine v_iload C dL_law_972 rfl ?_
  refine v_icmp_eq C hx hx (tgt := 979) dL_law_974 (by decide) (fun _ => ?_) (fun q => absurd rfl q)
  refine v_iload C dL_law_979 rfl ?_
  refine v_if_ne C hx (tgt := 996) dL_law_981 (by decide) (fun _ => ?_) (fun hz => ?_)
  · refine v_goto C (tgt := 1048) dL_law_996 (by decide) ?_
    exact v_less (ll' := [some (.ref b), some (.ref bk), some (.ref mo), some (.ref o), some (.int (iI i)), none, none, none]) ⟨rfl, rfl, rfl, rfl, rfl, trivial⟩ (next _ _ _ _ _ hL2)
  · refine v_aload_n C dL_law_984 rfl ?_
    refine v_iconst C dL_law_985 ?_
    refine v_lald C hL2.out (⟨by decide, by decide⟩) (Int.le_refl _) (by decide) dL_law_986 ?_
    rw [hy hz]
    refine v_iload C dL_law_987 rfl ?_
    refine v_i2l C (nrm_r y) dL_law_989 ?_
    refine v_lcmp_eq C (⟨by have := (nrm_r y).1; omega, by have := (nrm_r y).2; omega⟩) (⟨by have := (nrm_r y).1; omega, by have := (nrm_r y).2; omega⟩) (tgt := 996) dL_law_990 dL_law_991 (by decide) (fun _ => ?_) (fun q => absurd rfl q)
    refine v_goto C (tgt := 1048) dL_law_996 (by decide) ?_
    exact v_less (ll' := [some (.ref b), some (.ref bk), some (.ref mo), some (.ref o), some (.int (iI i)), none, none, none]) ⟨rfl, rfl, rfl, rfl, rfl, trivial⟩ (next _ _ _ _ _ hL2)
set_option maxRecDepth 100000 in
set_option maxHeartbeats 1000000 in
theorem case_end (C : Cx G p s m args meth c ⟨RL, nm9, ""⟩ cL_law 8 (some .boolean) wsL_law) (hfl : l.stackTraces = false) (hX : va_X b L xs s (gH G)) (hbN : b < gN G) (hL3 : L ≤ 3584) (hi : 0 ≤ i ∧ i + 7 ≤ (L : Int)) (hL : LI G w bk mo o n c0 f k z) (hn : n < 512) (next : ∀ (w' : Wd) (c' : Int) (f' : Int → Int) (k' z' : Nat), LI G w' bk mo o (n + 1) c' f' k' z' → V G p l e room_1 s m args below meth c Q w' k' z' 1048 [some (.ref b), some (.ref bk), some (.ref mo), some (.ref o), some (.int (iI i)), none, none, none] []) : V G p l e room_1 s m args below meth c Q w k z 999 [some (.ref b), some (.ref bk), some (.ref mo), some (.ref o), some (.int (iI i)), none, none, none] [] := by
  have hts := C.2.2.2.2.1
  obtain ⟨mc, ms, P, hfit, hM, hN⟩ := J_end hfl hL hn (scI_r xs (i + 1))
  refine v_aload_n C dL_law_999 rfl ?_
  refine v_aload_n C dL_law_1000 rfl ?_
  refine v_iload C dL_law_1001 rfl ?_
  refine v_iconst C dL_law_1003 ?_
  refine v_iadd C dL_law_1004 ?_
  refine v_sld C hX hbN (⟨by omega, by omega⟩) (by omega) (by omega) dL_law_1005 ?_
  refine v_callH C (b := 0) (t := 0) (ci := 0) (fs := []) (q := (RX7, TX7, 33)) (As := [_, _]) (rest := []) hM (vx_cwSW 2 hts gL_law_L_end rfl rfl rfl (by decide +kernel) ⟨Nat.le_of_ble_eq_true rfl, Nat.le_of_ble_eq_true rfl⟩) rfl rfl (Nat.le_of_ble_eq_true rfl) dL_law_1006 hfit.1 hfit.2 (fun x w1 hp => ?_)
  obtain ⟨⟨fs1, hmo1⟩, hx, hM2⟩ := hN x w1 hp
  refine v_istore C dL_law_1009 bsl_8_5 (by decide) rfl ?_
  refine v_aload_n C dL_law_1011 rfl ?_
  refine v_aload_n C dL_law_1012 rfl ?_
  refine v_iload C dL_law_1013 rfl ?_
  refine v_iconst C dL_law_1015 ?_
  refine v_iadd C dL_law_1016 ?_
  refine v_sld C hX hbN (⟨by omega, by omega⟩) (by omega) (by omega) dL_law_1017 ?_
  refine v_callVv C (q := (RX7, TX7, 33)) (As := [_]) (rest := []) hM2 (cwV 1 hts gL_law_X7_end rfl rfl rfl (by decide +kernel) ⟨Nat.le_of_ble_eq_true rfl, Nat.le_of_ble_eq_true rfl⟩) hmo1 rfl rfl rfl (Nat.le_of_ble_eq_true rfl) dL_law_1018 hfit.1 hfit.2 (fun w2 hp2 => ?_)
  obtain ⟨f9, hL2⟩ := hp2
  obtain ⟨fs2, hmo2⟩ := hL2.hmo
  refine v_wide (k' := k + mc) (z' := z + ms) (Nat.le_refl _) (Nat.le_refl _) ?_
  refine v_aload_n C dL_law_1021 rfl ?_
  refine v_callVi C (q := (RX7, TX7, 33)) (As := []) (rest := []) hL2.th (cwV 0 hts gL_law_X7_thrown rfl rfl rfl (by decide +kernel) ⟨Nat.le_of_ble_eq_true rfl, Nat.le_of_ble_eq_true rfl⟩) hmo2 rfl rfl rfl (Nat.le_of_ble_eq_true rfl) dL_law_1022 hfit.1 hfit.2 (fun t w3 hp3 => ?_)
  obtain ⟨rfl, rfl⟩ := hp3
  refine v_wide (k' := k + mc) (z' := z + ms) (Nat.le_refl _) (Nat.le_refl _) ?_
  refine v_iload C dL_law_1025 rfl ?_
  refine v_icmp_eq C hx hx (tgt := 1032) dL_law_1027 (by decide) (fun _ => ?_) (fun q => absurd rfl q)
  refine v_goto C (tgt := 1048) dL_law_1032 (by decide) ?_
  exact v_less (ll' := [some (.ref b), some (.ref bk), some (.ref mo), some (.ref o), some (.int (iI i)), none, none, none]) ⟨rfl, rfl, rfl, rfl, rfl, trivial⟩ (next _ _ _ _ _ hL2)
set_option maxRecDepth 100000 in
set_option maxHeartbeats 1000000 in
theorem case_load (C : Cx G p s m args meth c ⟨RL, nm9, ""⟩ cL_law 8 (some .boolean) wsL_law) (hfl : l.stackTraces = false) (hX : va_X b L xs s (gH G)) (hbN : b < gN G) (hL3 : L ≤ 3584) (hi : 0 ≤ i ∧ i + 7 ≤ (L : Int)) (hL : LI G w bk mo o n c0 f k z) (hn : n < 512) (next : ∀ (w' : Wd) (c' : Int) (f' : Int → Int) (k' z' : Nat), LI G w' bk mo o (n + 1) c' f' k' z' → V G p l e room_1 s m args below meth c Q w' k' z' 1048 [some (.ref b), some (.ref bk), some (.ref mo), some (.ref o), some (.int (iI i)), none, none, none] []) : V G p l e room_1 s m args below meth c Q w k z 1035 [some (.ref b), some (.ref bk), some (.ref mo), some (.ref o), some (.int (iI i)), none, none, none] [] := by
  have hts := C.2.2.2.2.1
  obtain ⟨mc, ms, P, hfit, hM, hN⟩ := J_load hL hn
  refine v_aload_n C dL_law_1035 rfl ?_
  obtain ⟨fs0, hbk⟩ := hL.hbk
  refine v_callVi C (q := (RX6, TX6, 6)) (As := []) (rest := []) hM (cwV 0 hts gL_law_X6_load rfl rfl rfl (by decide +kernel) ⟨Nat.le_of_ble_eq_true rfl, Nat.le_of_ble_eq_true rfl⟩) hbk rfl rfl rfl (Nat.le_of_ble_eq_true rfl) dL_law_1036 hfit.1 hfit.2 (fun x w1 hp => ?_)
  obtain ⟨⟨fs1, hmo1⟩, hx, hM2⟩ := hN x w1 hp
  refine v_aload_n C dL_law_1039 rfl ?_
  refine v_callVi C (q := (RX7, TX7, 33)) (As := []) (rest := [_]) hM2 (cwV 0 hts gL_law_X7_load rfl rfl rfl (by decide +kernel) ⟨Nat.le_of_ble_eq_true rfl, Nat.le_of_ble_eq_true rfl⟩) hmo1 rfl rfl rfl (Nat.le_of_ble_eq_true rfl) dL_law_1040 hfit.1 hfit.2 (fun y w2 hp2 => ?_)
  obtain ⟨rfl, c9, f9, hL2⟩ := hp2
  refine v_wide (k' := k + mc) (z' := z + ms) (Nat.le_refl _) (Nat.le_refl _) ?_
  refine v_icmp_eq C hx hx (tgt := 1048) dL_law_1043 (by decide) (fun _ => ?_) (fun q => absurd rfl q)
  exact v_less (ll' := [some (.ref b), some (.ref bk), some (.ref mo), some (.ref o), some (.int (iI i)), none, none, none]) ⟨rfl, rfl, rfl, rfl, rfl, trivial⟩ (next _ _ _ _ _ hL2)
end LWS
