section LWS
variable {G : GG} {p : Program} {l : Launch} {e : Env} {s : State} {m : MethodId} {args : Array Value} {below : List Frame} {meth : Method} {c : Code} {Q : State → Prop} {nm9 : String} {w : Wd} {k z pc : Nat} {ll : List (Option Value)} {st : List Value} {b L : Nat} {xs : Nat → Int32} {bk mo o : Nat} {n i c0 : Int} {f : Int → Int}
set_option maxRecDepth 100000 in
set_option maxHeartbeats 1000000 in
theorem case_change (C : Cx G p s m args meth c ⟨RL, nm9, ""⟩ cL_law 8 (some .boolean) wsL_law) (hfl : l.stackTraces = false) (hX : va_X b L xs s (gH G)) (hbN : b < gN G) (hL3 : L ≤ 3584) (hi : 0 ≤ i ∧ i + 7 ≤ (L : Int)) (hL : LI G w bk mo o n c0 f k z) (hn : n < 512) (next : ∀ (w' : Wd) (c' : Int) (f' : Int → Int) (k' z' : Nat), LI G w' bk mo o (n + 1) c' f' k' z' → V G p l e room_1 s m args below meth c Q w' k' z' 1048 [some (.ref b), some (.ref bk), some (.ref mo), some (.ref o), some (.int (iI i)), none, none, none] []) : V G p l e room_1 s m args below meth c Q w k z 357 [some (.ref b), some (.ref bk), some (.ref mo), some (.ref o), some (.int (iI i)), none, none, none] [] := by
  have hts := C.2.2.2.2.1
  obtain ⟨mc, ms, P, hfit, hM, hN⟩ := J_change hfl hL hn (scI_r xs (i + 1)) (scI_r xs (i + 2)) (scI_r xs (i + 3))
  refine v_aload_n C dL_law_357 rfl ?_
  refine v_aload_n C dL_law_358 rfl ?_
  refine v_iload C dL_law_359 rfl ?_
  refine v_iconst C dL_law_361 ?_
  refine v_iadd C dL_law_362 ?_
  refine v_sld C hX hbN (⟨by omega, by omega⟩) (by omega) (by omega) dL_law_363 ?_
  refine v_aload_n C dL_law_364 rfl ?_
  refine v_iload C dL_law_365 rfl ?_
  refine v_iconst C dL_law_367 ?_
  refine v_iadd C dL_law_368 ?_
  refine v_sld C hX hbN (⟨by omega, by omega⟩) (by omega) (by omega) dL_law_369 ?_
  refine v_aload_n C dL_law_370 rfl ?_
  refine v_iload C dL_law_371 rfl ?_
  refine v_iconst C dL_law_373 ?_
  refine v_iadd C dL_law_374 ?_
  refine v_sld C hX hbN (⟨by omega, by omega⟩) (by omega) (by omega) dL_law_375 ?_
  refine v_aload_n C dL_law_376 rfl ?_
  refine v_callH C (b := 0) (t := 0) (ci := 0) (fs := []) (q := (RX7, TX7, 33)) (As := [_, _, _, _, _]) (rest := []) hM (vx_cwSW 5 hts gL_law_L_change rfl rfl rfl (by decide +kernel) ⟨Nat.le_of_ble_eq_true rfl, Nat.le_of_ble_eq_true rfl⟩) rfl rfl (Nat.le_of_ble_eq_true rfl) dL_law_377 hfit.1 hfit.2 (fun x w1 hp => ?_)
  obtain ⟨⟨fs1, hmo1⟩, hx, hM2⟩ := hN x w1 hp
  refine v_istore C dL_law_380 bsl_8_5 (by decide) rfl ?_
  refine v_aload_n C dL_law_382 rfl ?_
  refine v_aload_n C dL_law_383 rfl ?_
  refine v_iload C dL_law_384 rfl ?_
  refine v_iconst C dL_law_386 ?_
  refine v_iadd C dL_law_387 ?_
  refine v_sld C hX hbN (⟨by omega, by omega⟩) (by omega) (by omega) dL_law_388 ?_
  refine v_aload_n C dL_law_389 rfl ?_
  refine v_iload C dL_law_390 rfl ?_
  refine v_iconst C dL_law_392 ?_
  refine v_iadd C dL_law_393 ?_
  refine v_sld C hX hbN (⟨by omega, by omega⟩) (by omega) (by omega) dL_law_394 ?_
  refine v_aload_n C dL_law_395 rfl ?_
  refine v_iload C dL_law_396 rfl ?_
  refine v_iconst C dL_law_398 ?_
  refine v_iadd C dL_law_399 ?_
  refine v_sld C hX hbN (⟨by omega, by omega⟩) (by omega) (by omega) dL_law_400 ?_
  refine v_callVi C (q := (RX7, TX7, 33)) (As := [_, _, _]) (rest := []) hM2 (cwV 3 hts gL_law_X7_change rfl rfl rfl (by decide +kernel) ⟨Nat.le_of_ble_eq_true rfl, Nat.le_of_ble_eq_true rfl⟩) hmo1 rfl rfl rfl (Nat.le_of_ble_eq_true rfl) dL_law_401 hfit.1 hfit.2 (fun y w2 hp2 => ?_)
  obtain ⟨hyr, f9, hL2, hy⟩ := hp2
  obtain ⟨fs2, hmo2⟩ := hL2.hmo
  refine v_wide (k' := k + mc) (z' := z + ms) (Nat.le_refl _) (Nat.le_refl _) ?_
  refine v_istore C dL_law_404 bsl_8_6 (by decide) rfl ?_
  refine v_aload_n C dL_law_406 rfl ?_
  refine v_callVi C (q := (RX7, TX7, 33)) (As := []) (rest := []) hL2.th (cwV 0 hts gL_law_X7_thrown rfl rfl rfl (by decide +kernel) ⟨Nat.le_of_ble_eq_true rfl, Nat.le_of_ble_eq_true rfl⟩) hmo2 rfl rfl rfl (Nat.le_of_ble_eq_true rfl) dL_law_407 hfit.1 hfit.2 (fun t w3 hp3 => ?_)
  obtain ⟨rfl, rfl⟩ := hp3
  refine v_wide (k' := k + mc) (z' := z + ms) (Nat.le_refl _) (Nat.le_refl _) ?_
  refine v_iload C dL_law_410 rfl ?_
  refine v_icmp_eq C hx hx (tgt := 417) dL_law_412 (by decide) (fun _ => ?_) (fun q => absurd rfl q)
  refine v_iload C dL_law_417 rfl ?_
  refine v_if_ne C hx (tgt := 441) dL_law_419 (by decide) (fun _ => ?_) (fun hz => ?_)
  · refine v_goto C (tgt := 1048) dL_law_441 (by decide) ?_
    exact v_less (ll' := [some (.ref b), some (.ref bk), some (.ref mo), some (.ref o), some (.int (iI i)), none, none, none]) ⟨rfl, rfl, rfl, rfl, rfl, trivial⟩ (next _ _ _ _ _ hL2)
  · refine v_aload_n C dL_law_422 rfl ?_
    refine v_iconst C dL_law_423 ?_
    refine v_lald C hL2.out (⟨by decide, by decide⟩) (Int.le_refl _) (by decide) dL_law_424 ?_
    rw [hy hz]
    refine v_iload C dL_law_425 rfl ?_
    refine v_if_eq C (by rcases hyr with h | h <;> exact ⟨by omega, by omega⟩) (tgt := 434) dL_law_427 (by decide) (fun c1 => ?_) (fun c1 => ?_)
    · refine v_lconst C (v := 0) dL_law_434 rfl ?_
      rw [c1]
      refine v_lcmp_eq C (⟨by decide, by decide⟩) (⟨by decide, by decide⟩) (tgt := 441) dL_law_435 dL_law_436 (by decide) (fun _ => ?_) (fun q => absurd rfl q)
      refine v_goto C (tgt := 1048) dL_law_441 (by decide) ?_
      exact v_less (ll' := [some (.ref b), some (.ref bk), some (.ref mo), some (.ref o), some (.int (iI i)), none, none, none]) ⟨rfl, rfl, rfl, rfl, rfl, trivial⟩ (next _ _ _ _ _ hL2)
    · refine v_lconst C (v := 1) dL_law_430 rfl ?_
      refine v_goto C (tgt := 435) dL_law_431 (by decide) ?_
      rw [show y = 1 by omega]
      refine v_lcmp_eq C (⟨by decide, by decide⟩) (⟨by decide, by decide⟩) (tgt := 441) dL_law_435 dL_law_436 (by decide) (fun _ => ?_) (fun q => absurd rfl q)
      refine v_goto C (tgt := 1048) dL_law_441 (by decide) ?_
      exact v_less (ll' := [some (.ref b), some (.ref bk), some (.ref mo), some (.ref o), some (.int (iI i)), none, none, none]) ⟨rfl, rfl, rfl, rfl, rfl, trivial⟩ (next _ _ _ _ _ hL2)
set_option maxRecDepth 100000 in
set_option maxHeartbeats 1000000 in
theorem case_close (C : Cx G p s m args meth c ⟨RL, nm9, ""⟩ cL_law 8 (some .boolean) wsL_law) (hfl : l.stackTraces = false) (hX : va_X b L xs s (gH G)) (hbN : b < gN G) (hL3 : L ≤ 3584) (hi : 0 ≤ i ∧ i + 7 ≤ (L : Int)) (hL : LI G w bk mo o n c0 f k z) (hn : n < 512) (next : ∀ (w' : Wd) (c' : Int) (f' : Int → Int) (k' z' : Nat), LI G w' bk mo o (n + 1) c' f' k' z' → V G p l e room_1 s m args below meth c Q w' k' z' 1048 [some (.ref b), some (.ref bk), some (.ref mo), some (.ref o), some (.int (iI i)), none, none, none] []) : V G p l e room_1 s m args below meth c Q w k z 444 [some (.ref b), some (.ref bk), some (.ref mo), some (.ref o), some (.int (iI i)), none, none, none] [] := by
  have hts := C.2.2.2.2.1
  obtain ⟨mc, ms, P, hfit, hM, hN⟩ := J_close hL hn
  refine v_aload_n C dL_law_444 rfl ?_
  refine v_aload_n C dL_law_445 rfl ?_
  refine v_callH C (b := 0) (t := 0) (ci := 0) (fs := []) (q := (RX7, TX7, 33)) (As := [_, _]) (rest := []) hM (vx_cwSW 2 hts gL_law_L_close rfl rfl rfl (by decide +kernel) ⟨Nat.le_of_ble_eq_true rfl, Nat.le_of_ble_eq_true rfl⟩) rfl rfl (Nat.le_of_ble_eq_true rfl) dL_law_446 hfit.1 hfit.2 (fun x w1 hp => ?_)
  obtain ⟨⟨fs1, hmo1⟩, hx, hM2⟩ := hN x w1 hp
  refine v_istore C dL_law_449 bsl_8_5 (by decide) rfl ?_
  refine v_aload_n C dL_law_451 rfl ?_
  refine v_callVi C (q := (RX7, TX7, 33)) (As := []) (rest := []) hM2 (cwV 0 hts gL_law_X7_close rfl rfl rfl (by decide +kernel) ⟨Nat.le_of_ble_eq_true rfl, Nat.le_of_ble_eq_true rfl⟩) hmo1 rfl rfl rfl (Nat.le_of_ble_eq_true rfl) dL_law_452 hfit.1 hfit.2 (fun y w2 hp2 => ?_)
  obtain ⟨f9, hL2, hy⟩ := hp2
  obtain ⟨fs2, hmo2⟩ := hL2.hmo
  refine v_wide (k' := k + mc) (z' := z + ms) (Nat.le_refl _) (Nat.le_refl _) ?_
  rw [nrm_e y]
  refine v_istore C dL_law_455 bsl_8_6 (by decide) rfl ?_
  refine v_aload_n C dL_law_457 rfl ?_
  refine v_callVi C (q := (RX7, TX7, 33)) (As := []) (rest := []) hL2.th (cwV 0 hts gL_law_X7_thrown rfl rfl rfl (by decide +kernel) ⟨Nat.le_of_ble_eq_true rfl, Nat.le_of_ble_eq_true rfl⟩) hmo2 rfl rfl rfl (Nat.le_of_ble_eq_true rfl) dL_law_458 hfit.1 hfit.2 (fun t w3 hp3 => ?_)
  obtain ⟨rfl, rfl⟩ := hp3
  refine v_wide (k' := k + mc) (z' := z + ms) (Nat.le_refl _) (Nat.le_refl _) ?_
  refine v_iload C dL_law_461 rfl ?_
  refine v_icmp_eq C hx hx (tgt := 468) dL_law_463 (by decide) (fun _ => ?_) (fun q => absurd rfl q)
  refine v_iload C dL_law_468 rfl ?_
  refine v_if_ne C hx (tgt := 485) dL_law_470 (by decide) (fun _ => ?_) (fun hz => ?_)
  · refine v_goto C (tgt := 1048) dL_law_485 (by decide) ?_
    exact v_less (ll' := [some (.ref b), some (.ref bk), some (.ref mo), some (.ref o), some (.int (iI i)), none, none, none]) ⟨rfl, rfl, rfl, rfl, rfl, trivial⟩ (next _ _ _ _ _ hL2)
  · refine v_aload_n C dL_law_473 rfl ?_
    refine v_iconst C dL_law_474 ?_
    refine v_lald C hL2.out (⟨by decide, by decide⟩) (Int.le_refl _) (by decide) dL_law_475 ?_
    rw [hy hz]
    refine v_iload C dL_law_476 rfl ?_
    refine v_i2l C (nrm_r y) dL_law_478 ?_
    refine v_lcmp_eq C (⟨by have := (nrm_r y).1; omega, by have := (nrm_r y).2; omega⟩) (⟨by have := (nrm_r y).1; omega, by have := (nrm_r y).2; omega⟩) (tgt := 485) dL_law_479 dL_law_480 (by decide) (fun _ => ?_) (fun q => absurd rfl q)
    refine v_goto C (tgt := 1048) dL_law_485 (by decide) ?_
    exact v_less (ll' := [some (.ref b), some (.ref bk), some (.ref mo), some (.ref o), some (.int (iI i)), none, none, none]) ⟨rfl, rfl, rfl, rfl, rfl, trivial⟩ (next _ _ _ _ _ hL2)
set_option maxRecDepth 100000 in
set_option maxHeartbeats 1000000 in
theorem case_moments (C : Cx G p s m args meth c ⟨RL, nm9, ""⟩ cL_law 8 (some .boolean) wsL_law) (hfl : l.stackTraces = false) (hX : va_X b L xs s (gH G)) (hbN : b < gN G) (hL3 : L ≤ 3584) (hi : 0 ≤ i ∧ i + 7 ≤ (L : Int)) (hL : LI G w bk mo o n c0 f k z) (hn : n < 512) (next : ∀ (w' : Wd) (c' : Int) (f' : Int → Int) (k' z' : Nat), LI G w' bk mo o (n + 1) c' f' k' z' → V G p l e room_1 s m args below meth c Q w' k' z' 1048 [some (.ref b), some (.ref bk), some (.ref mo), some (.ref o), some (.int (iI i)), none, none, none] []) : V G p l e room_1 s m args below meth c Q w k z 488 [some (.ref b), some (.ref bk), some (.ref mo), some (.ref o), some (.int (iI i)), none, none, none] [] := by
  have hts := C.2.2.2.2.1
  obtain ⟨mc, ms, P, hfit, hM, hN⟩ := J_moments hL hn
  refine v_aload_n C dL_law_488 rfl ?_
  obtain ⟨fs0, hbk⟩ := hL.hbk
  refine v_callVi C (q := (RX6, TX6, 6)) (As := []) (rest := []) hM (cwV 0 hts gL_law_X6_moments rfl rfl rfl (by decide +kernel) ⟨Nat.le_of_ble_eq_true rfl, Nat.le_of_ble_eq_true rfl⟩) hbk rfl rfl rfl (Nat.le_of_ble_eq_true rfl) dL_law_489 hfit.1 hfit.2 (fun x w1 hp => ?_)
  obtain ⟨⟨fs1, hmo1⟩, hx, hM2⟩ := hN x w1 hp
  refine v_aload_n C dL_law_492 rfl ?_
  refine v_callVi C (q := (RX7, TX7, 33)) (As := []) (rest := [_]) hM2 (cwV 0 hts gL_law_X7_moments rfl rfl rfl (by decide +kernel) ⟨Nat.le_of_ble_eq_true rfl, Nat.le_of_ble_eq_true rfl⟩) hmo1 rfl rfl rfl (Nat.le_of_ble_eq_true rfl) dL_law_493 hfit.1 hfit.2 (fun y w2 hp2 => ?_)
  obtain ⟨rfl, c9, f9, hL2⟩ := hp2
  refine v_wide (k' := k + mc) (z' := z + ms) (Nat.le_refl _) (Nat.le_refl _) ?_
  refine v_icmp_eq C hx hx (tgt := 1048) dL_law_496 (by decide) (fun _ => ?_) (fun q => absurd rfl q)
  exact v_less (ll' := [some (.ref b), some (.ref bk), some (.ref mo), some (.ref o), some (.int (iI i)), none, none, none]) ⟨rfl, rfl, rfl, rfl, rfl, trivial⟩ (next _ _ _ _ _ hL2)
set_option maxRecDepth 100000 in
set_option maxHeartbeats 1000000 in
theorem case_moment (C : Cx G p s m args meth c ⟨RL, nm9, ""⟩ cL_law 8 (some .boolean) wsL_law) (hfl : l.stackTraces = false) (hX : va_X b L xs s (gH G)) (hbN : b < gN G) (hL3 : L ≤ 3584) (hi : 0 ≤ i ∧ i + 7 ≤ (L : Int)) (hL : LI G w bk mo o n c0 f k z) (hn : n < 512) (next : ∀ (w' : Wd) (c' : Int) (f' : Int → Int) (k' z' : Nat), LI G w' bk mo o (n + 1) c' f' k' z' → V G p l e room_1 s m args below meth c Q w' k' z' 1048 [some (.ref b), some (.ref bk), some (.ref mo), some (.ref o), some (.int (iI i)), none, none, none] []) : V G p l e room_1 s m args below meth c Q w k z 501 [some (.ref b), some (.ref bk), some (.ref mo), some (.ref o), some (.int (iI i)), none, none, none] [] := by
  have hts := C.2.2.2.2.1
  obtain ⟨mc, ms, P, hfit, hM, hN⟩ := J_moment hfl hL hn (scI_r xs (i + 1)) (scI_r xs (i + 2))
  refine v_aload_n C dL_law_501 rfl ?_
  refine v_aload_n C dL_law_502 rfl ?_
  refine v_iload C dL_law_503 rfl ?_
  refine v_iconst C dL_law_505 ?_
  refine v_iadd C dL_law_506 ?_
  refine v_sld C hX hbN (⟨by omega, by omega⟩) (by omega) (by omega) dL_law_507 ?_
  refine v_aload_n C dL_law_508 rfl ?_
  refine v_iload C dL_law_509 rfl ?_
  refine v_iconst C dL_law_511 ?_
  refine v_iadd C dL_law_512 ?_
  refine v_sld C hX hbN (⟨by omega, by omega⟩) (by omega) (by omega) dL_law_513 ?_
  refine v_aload_n C dL_law_514 rfl ?_
  refine v_callH C (b := 0) (t := 0) (ci := 0) (fs := []) (q := (RX7, TX7, 33)) (As := [_, _, _, _]) (rest := []) hM (vx_cwSW 4 hts gL_law_L_moment rfl rfl rfl (by decide +kernel) ⟨Nat.le_of_ble_eq_true rfl, Nat.le_of_ble_eq_true rfl⟩) rfl rfl (Nat.le_of_ble_eq_true rfl) dL_law_515 hfit.1 hfit.2 (fun x w1 hp => ?_)
  obtain ⟨⟨fs1, hmo1⟩, hx, hM2⟩ := hN x w1 hp
  refine v_istore C dL_law_518 bsl_8_5 (by decide) rfl ?_
  refine v_aload_n C dL_law_520 rfl ?_
  refine v_aload_n C dL_law_521 rfl ?_
  refine v_iload C dL_law_522 rfl ?_
  refine v_iconst C dL_law_524 ?_
  refine v_iadd C dL_law_525 ?_
  refine v_sld C hX hbN (⟨by omega, by omega⟩) (by omega) (by omega) dL_law_526 ?_
  refine v_aload_n C dL_law_527 rfl ?_
  refine v_iload C dL_law_528 rfl ?_
  refine v_iconst C dL_law_530 ?_
  refine v_iadd C dL_law_531 ?_
  refine v_sld C hX hbN (⟨by omega, by omega⟩) (by omega) (by omega) dL_law_532 ?_
  refine v_callVl C (q := (RX7, TX7, 33)) (As := [_, _]) (rest := []) hM2 (cwV 2 hts gL_law_X7_moment rfl rfl rfl (by decide +kernel) ⟨Nat.le_of_ble_eq_true rfl, Nat.le_of_ble_eq_true rfl⟩) hmo1 rfl rfl rfl (Nat.le_of_ble_eq_true rfl) dL_law_533 hfit.1 hfit.2 (fun y w2 hp2 => ?_)
  obtain ⟨f9, hL2, hy⟩ := hp2
  obtain ⟨fs2, hmo2⟩ := hL2.hmo
  refine v_wide (k' := k + mc) (z' := z + ms) (Nat.le_refl _) (Nat.le_refl _) ?_
  rw [nrmL_e y]
  refine v_lstore C dL_law_536 bsj_8_6 (by decide) (Nat.le_of_ble_eq_true rfl) rfl ?_
  refine v_aload_n C dL_law_538 rfl ?_
  refine v_callVi C (q := (RX7, TX7, 33)) (As := []) (rest := []) hL2.th (cwV 0 hts gL_law_X7_thrown rfl rfl rfl (by decide +kernel) ⟨Nat.le_of_ble_eq_true rfl, Nat.le_of_ble_eq_true rfl⟩) hmo2 rfl rfl rfl (Nat.le_of_ble_eq_true rfl) dL_law_539 hfit.1 hfit.2 (fun t w3 hp3 => ?_)
  obtain ⟨rfl, rfl⟩ := hp3
  refine v_wide (k' := k + mc) (z' := z + ms) (Nat.le_refl _) (Nat.le_refl _) ?_
  refine v_iload C dL_law_542 rfl ?_
  refine v_icmp_eq C hx hx (tgt := 549) dL_law_544 (by decide) (fun _ => ?_) (fun q => absurd rfl q)
  refine v_iload C dL_law_549 rfl ?_
  refine v_if_ne C hx (tgt := 565) dL_law_551 (by decide) (fun _ => ?_) (fun hz => ?_)
  · refine v_goto C (tgt := 1048) dL_law_565 (by decide) ?_
    exact v_less (ll' := [some (.ref b), some (.ref bk), some (.ref mo), some (.ref o), some (.int (iI i)), none, none, none]) ⟨rfl, rfl, rfl, rfl, rfl, trivial⟩ (next _ _ _ _ _ hL2)
  · refine v_aload_n C dL_law_554 rfl ?_
    refine v_iconst C dL_law_555 ?_
    refine v_lald C hL2.out (⟨by decide, by decide⟩) (Int.le_refl _) (by decide) dL_law_556 ?_
    rw [hy hz]
    refine v_lload C dL_law_557 rfl ?_
    refine v_lcmp_eq C (nrmL_r y) (nrmL_r y) (tgt := 565) dL_law_559 dL_law_560 (by decide) (fun _ => ?_) (fun q => absurd rfl q)
    refine v_goto C (tgt := 1048) dL_law_565 (by decide) ?_
    exact v_less (ll' := [some (.ref b), some (.ref bk), some (.ref mo), some (.ref o), some (.int (iI i)), none, none, none]) ⟨rfl, rfl, rfl, rfl, rfl, trivial⟩ (next _ _ _ _ _ hL2)
end LWS
