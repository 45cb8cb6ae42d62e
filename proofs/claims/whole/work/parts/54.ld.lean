section LWS
variable {G : GG} {p : Program} {l : Launch} {e : Env} {s : State} {m : MethodId} {args : Array Value} {below : List Frame} {meth : Method} {c : Code} {Q : State → Prop} {nm9 : String} {w : Wd} {k z pc : Nat} {ll : List (Option Value)} {st : List Value} {b L : Nat} {xs : Nat → Int32} {bk mo o : Nat} {n i c0 : Int} {f : Int → Int}
set_option maxRecDepth 100000 in
set_option maxHeartbeats 1000000 in
theorem case_changed (C : Cx G p s m args meth c ⟨RL, nm9, ""⟩ cL_law 8 (some .boolean) wsL_law) (hfl : l.stackTraces = false) (hX : va_X b L xs s (gH G)) (hbN : b < gN G) (hL3 : L ≤ 3584) (hi : 0 ≤ i ∧ i + 7 ≤ (L : Int)) (hL : LI G w bk mo o n c0 f k z) (hn : n < 512) (next : ∀ (w' : Wd) (c' : Int) (f' : Int → Int) (k' z' : Nat), LI G w' bk mo o (n + 1) c' f' k' z' → V G p l e room_1 s m args below meth c Q w' k' z' 1048 [some (.ref b), some (.ref bk), some (.ref mo), some (.ref o), some (.int (iI i)), none, none, none] []) : V G p l e room_1 s m args below meth c Q w k z 568 [some (.ref b), some (.ref bk), some (.ref mo), some (.ref o), some (.int (iI i)), none, none, none] [] := by
  have hts := C.2.2.2.2.1
  obtain ⟨mc, ms, P, hfit, hM, hN⟩ := J_changed hfl hL hn (scI_r xs (i + 1)) (scI_r xs (i + 2)) (scI_r xs (i + 3))
  refine v_aload_n C dL_law_568 rfl ?_
  refine v_aload_n C dL_law_569 rfl ?_
  refine v_iload C dL_law_570 rfl ?_
  refine v_iconst C dL_law_572 ?_
  refine v_iadd C dL_law_573 ?_
  refine v_sld C hX hbN (⟨by omega, by omega⟩) (by omega) (by omega) dL_law_574 ?_
  refine v_aload_n C dL_law_575 rfl ?_
  refine v_iload C dL_law_576 rfl ?_
  refine v_iconst C dL_law_578 ?_
  refine v_iadd C dL_law_579 ?_
  refine v_sld C hX hbN (⟨by omega, by omega⟩) (by omega) (by omega) dL_law_580 ?_
  refine v_aload_n C dL_law_581 rfl ?_
  refine v_iload C dL_law_582 rfl ?_
  refine v_iconst C dL_law_584 ?_
  refine v_iadd C dL_law_585 ?_
  refine v_sld C hX hbN (⟨by omega, by omega⟩) (by omega) (by omega) dL_law_586 ?_
  refine v_aload_n C dL_law_587 rfl ?_
  refine v_callH C (b := 0) (t := 0) (ci := 0) (fs := []) (q := (RX7, TX7, 33)) (As := [_, _, _, _, _]) (rest := []) hM (vx_cwSW 5 hts gL_law_L_changed rfl rfl rfl (by decide +kernel) ⟨Nat.le_of_ble_eq_true rfl, Nat.le_of_ble_eq_true rfl⟩) rfl rfl (Nat.le_of_ble_eq_true rfl) dL_law_588 hfit.1 hfit.2 (fun x w1 hp => ?_)
  obtain ⟨⟨fs1, hmo1⟩, hx, hM2⟩ := hN x w1 hp
  refine v_istore C dL_law_591 bsl_8_5 (by decide) rfl ?_
  refine v_aload_n C dL_law_593 rfl ?_
  refine v_aload_n C dL_law_594 rfl ?_
  refine v_iload C dL_law_595 rfl ?_
  refine v_iconst C dL_law_597 ?_
  refine v_iadd C dL_law_598 ?_
  refine v_sld C hX hbN (⟨by omega, by omega⟩) (by omega) (by omega) dL_law_599 ?_
  refine v_aload_n C dL_law_600 rfl ?_
  refine v_iload C dL_law_601 rfl ?_
  refine v_iconst C dL_law_603 ?_
  refine v_iadd C dL_law_604 ?_
  refine v_sld C hX hbN (⟨by omega, by omega⟩) (by omega) (by omega) dL_law_605 ?_
  refine v_aload_n C dL_law_606 rfl ?_
  refine v_iload C dL_law_607 rfl ?_
  refine v_iconst C dL_law_609 ?_
  refine v_iadd C dL_law_610 ?_
  refine v_sld C hX hbN (⟨by omega, by omega⟩) (by omega) (by omega) dL_law_611 ?_
  refine v_callVi C (q := (RX7, TX7, 33)) (As := [_, _, _]) (rest := []) hM2 (cwV 3 hts gL_law_X7_changed rfl rfl rfl (by decide +kernel) ⟨Nat.le_of_ble_eq_true rfl, Nat.le_of_ble_eq_true rfl⟩) hmo1 rfl rfl rfl (Nat.le_of_ble_eq_true rfl) dL_law_612 hfit.1 hfit.2 (fun y w2 hp2 => ?_)
  obtain ⟨f9, hL2, hy⟩ := hp2
  obtain ⟨fs2, hmo2⟩ := hL2.hmo
  refine v_wide (k' := k + mc) (z' := z + ms) (Nat.le_refl _) (Nat.le_refl _) ?_
  rw [nrm_e y]
  refine v_istore C dL_law_615 bsl_8_6 (by decide) rfl ?_
  refine v_aload_n C dL_law_617 rfl ?_
  refine v_callVi C (q := (RX7, TX7, 33)) (As := []) (rest := []) hL2.th (cwV 0 hts gL_law_X7_thrown rfl rfl rfl (by decide +kernel) ⟨Nat.le_of_ble_eq_true rfl, Nat.le_of_ble_eq_true rfl⟩) hmo2 rfl rfl rfl (Nat.le_of_ble_eq_true rfl) dL_law_618 hfit.1 hfit.2 (fun t w3 hp3 => ?_)
  obtain ⟨rfl, rfl⟩ := hp3
  refine v_wide (k' := k + mc) (z' := z + ms) (Nat.le_refl _) (Nat.le_refl _) ?_
  refine v_iload C dL_law_621 rfl ?_
  refine v_icmp_eq C hx hx (tgt := 628) dL_law_623 (by decide) (fun _ => ?_) (fun q => absurd rfl q)
  refine v_iload C dL_law_628 rfl ?_
  refine v_if_ne C hx (tgt := 645) dL_law_630 (by decide) (fun _ => ?_) (fun hz => ?_)
  · refine v_goto C (tgt := 1048) dL_law_645 (by decide) ?_
    exact v_less (ll' := [some (.ref b), some (.ref bk), some (.ref mo), some (.ref o), some (.int (iI i)), none, none, none]) ⟨rfl, rfl, rfl, rfl, rfl, trivial⟩ (next _ _ _ _ _ hL2)
  · refine v_aload_n C dL_law_633 rfl ?_
    refine v_iconst C dL_law_634 ?_
    refine v_lald C hL2.out (⟨by decide, by decide⟩) (Int.le_refl _) (by decide) dL_law_635 ?_
    rw [hy hz]
    refine v_iload C dL_law_636 rfl ?_
    refine v_i2l C (nrm_r y) dL_law_638 ?_
    refine v_lcmp_eq C (⟨by have := (nrm_r y).1; omega, by have := (nrm_r y).2; omega⟩) (⟨by have := (nrm_r y).1; omega, by have := (nrm_r y).2; omega⟩) (tgt := 645) dL_law_639 dL_law_640 (by decide) (fun _ => ?_) (fun q => absurd rfl q)
    refine v_goto C (tgt := 1048) dL_law_645 (by decide) ?_
    exact v_less (ll' := [some (.ref b), some (.ref bk), some (.ref mo), some (.ref o), some (.int (iI i)), none, none, none]) ⟨rfl, rfl, rfl, rfl, rfl, trivial⟩ (next _ _ _ _ _ hL2)
set_option maxRecDepth 100000 in
set_option maxHeartbeats 1000000 in
theorem case_at (C : Cx G p s m args meth c ⟨RL, nm9, ""⟩ cL_law 8 (some .boolean) wsL_law) (hfl : l.stackTraces = false) (hX : va_X b L xs s (gH G)) (hbN : b < gN G) (hL3 : L ≤ 3584) (hi : 0 ≤ i ∧ i + 7 ≤ (L : Int)) (hL : LI G w bk mo o n c0 f k z) (hn : n < 512) (next : ∀ (w' : Wd) (c' : Int) (f' : Int → Int) (k' z' : Nat), LI G w' bk mo o (n + 1) c' f' k' z' → V G p l e room_1 s m args below meth c Q w' k' z' 1048 [some (.ref b), some (.ref bk), some (.ref mo), some (.ref o), some (.int (iI i)), none, none, none] []) : V G p l e room_1 s m args below meth c Q w k z 648 [some (.ref b), some (.ref bk), some (.ref mo), some (.ref o), some (.int (iI i)), none, none, none] [] := by
  have hts := C.2.2.2.2.1
  obtain ⟨t1, ht1⟩ : ∃ z : Int, lI (scI xs (i + 1)) <<< ((iI 32).toInt64 &&& 63) = lI z := ⟨_, lI_of _⟩
  obtain ⟨t2, ht2⟩ : ∃ z : Int, lI (scI xs (i + 2)) &&& lI 4294967295 = lI z := ⟨_, lI_of _⟩
  obtain ⟨t9, ht3, ht9⟩ : ∃ z : Int, lI t1 ||| lI t2 = lI z ∧ R64 z := ⟨_, lI_of _, R64_of _⟩
  obtain ⟨s1, hs1⟩ : ∃ z : Int, lI (scI xs (i + 3)) <<< ((iI 32).toInt64 &&& 63) = lI z := ⟨_, lI_of _⟩
  obtain ⟨s2, hs2⟩ : ∃ z : Int, lI (scI xs (i + 4)) &&& lI 4294967295 = lI z := ⟨_, lI_of _⟩
  obtain ⟨s9, hs3, hs9⟩ : ∃ z : Int, lI s1 ||| lI s2 = lI z ∧ R64 z := ⟨_, lI_of _, R64_of _⟩
  obtain ⟨mc, ms, P, hfit, hM, hN⟩ := J_at hfl hL hn ht9 hs9 (scI_r xs (i + 5)) (scI_r xs (i + 6))
  refine v_aload_n C dL_law_648 rfl ?_
  refine v_aload_n C dL_law_649 rfl ?_
  refine v_iload C dL_law_650 rfl ?_
  refine v_iconst C dL_law_652 ?_
  refine v_iadd C dL_law_653 ?_
  refine v_sld C hX hbN (⟨by omega, by omega⟩) (by omega) (by omega) dL_law_654 ?_
  refine v_i2l C (scI_r _ _) dL_law_655 ?_
  refine v_bipush C dL_law_656 rfl ?_
  refine v_lshl C ht1 dL_law_658 ?_
  refine v_aload_n C dL_law_659 rfl ?_
  refine v_iload C dL_law_660 rfl ?_
  refine v_iconst C dL_law_662 ?_
  refine v_iadd C dL_law_663 ?_
  refine v_sld C hX hbN (⟨by omega, by omega⟩) (by omega) (by omega) dL_law_664 ?_
  refine v_i2l C (scI_r _ _) dL_law_665 ?_
  refine v_ldc2 C (v := 4294967295) (List.mem_of_getElem? (i := 7) rfl) (by decide +kernel) dL_law_666 ?_
  refine v_land C ht2 dL_law_669 ?_
  refine v_lor C ht3 dL_law_670 ?_
  refine v_aload_n C dL_law_671 rfl ?_
  refine v_iload C dL_law_672 rfl ?_
  refine v_iconst C dL_law_674 ?_
  refine v_iadd C dL_law_675 ?_
  refine v_sld C hX hbN (⟨by omega, by omega⟩) (by omega) (by omega) dL_law_676 ?_
  refine v_i2l C (scI_r _ _) dL_law_677 ?_
  refine v_bipush C dL_law_678 rfl ?_
  refine v_lshl C hs1 dL_law_680 ?_
  refine v_aload_n C dL_law_681 rfl ?_
  refine v_iload C dL_law_682 rfl ?_
  refine v_iconst C dL_law_684 ?_
  refine v_iadd C dL_law_685 ?_
  refine v_sld C hX hbN (⟨by omega, by omega⟩) (by omega) (by omega) dL_law_686 ?_
  refine v_i2l C (scI_r _ _) dL_law_687 ?_
  refine v_ldc2 C (v := 4294967295) (List.mem_of_getElem? (i := 7) rfl) (by decide +kernel) dL_law_688 ?_
  refine v_land C hs2 dL_law_691 ?_
  refine v_lor C hs3 dL_law_692 ?_
  refine v_aload_n C dL_law_693 rfl ?_
  refine v_iload C dL_law_694 rfl ?_
  refine v_iconst C dL_law_696 ?_
  refine v_iadd C dL_law_697 ?_
  refine v_sld C hX hbN (⟨by omega, by omega⟩) (by omega) (by omega) dL_law_698 ?_
  refine v_aload_n C dL_law_699 rfl ?_
  refine v_iload C dL_law_700 rfl ?_
  refine v_bipush C dL_law_702 rfl ?_
  refine v_iadd C dL_law_704 ?_
  refine v_sld C hX hbN (⟨by omega, by omega⟩) (by omega) (by omega) dL_law_705 ?_
  refine v_aload_n C dL_law_706 rfl ?_
  refine v_callH C (b := 0) (t := 0) (ci := 0) (fs := []) (q := (RX7, TX7, 33)) (As := [_, _, _, _, _, _]) (rest := []) hM (vx_cwSW 6 hts gL_law_L_at rfl rfl rfl (by decide +kernel) ⟨Nat.le_of_ble_eq_true rfl, Nat.le_of_ble_eq_true rfl⟩) rfl rfl (Nat.le_of_ble_eq_true rfl) dL_law_707 hfit.1 hfit.2 (fun x w1 hp => ?_)
  obtain ⟨⟨fs1, hmo1⟩, hx, hM2⟩ := hN x w1 hp
  refine v_istore C dL_law_710 bsl_8_5 (by decide) rfl ?_
  refine v_aload_n C dL_law_712 rfl ?_
  refine v_aload_n C dL_law_713 rfl ?_
  refine v_iload C dL_law_714 rfl ?_
  refine v_iconst C dL_law_716 ?_
  refine v_iadd C dL_law_717 ?_
  refine v_sld C hX hbN (⟨by omega, by omega⟩) (by omega) (by omega) dL_law_718 ?_
  refine v_i2l C (scI_r _ _) dL_law_719 ?_
  refine v_bipush C dL_law_720 rfl ?_
  refine v_lshl C ht1 dL_law_722 ?_
  refine v_aload_n C dL_law_723 rfl ?_
  refine v_iload C dL_law_724 rfl ?_
  refine v_iconst C dL_law_726 ?_
  refine v_iadd C dL_law_727 ?_
  refine v_sld C hX hbN (⟨by omega, by omega⟩) (by omega) (by omega) dL_law_728 ?_
  refine v_i2l C (scI_r _ _) dL_law_729 ?_
  refine v_ldc2 C (v := 4294967295) (List.mem_of_getElem? (i := 7) rfl) (by decide +kernel) dL_law_730 ?_
  refine v_land C ht2 dL_law_733 ?_
  refine v_lor C ht3 dL_law_734 ?_
  refine v_aload_n C dL_law_735 rfl ?_
  refine v_iload C dL_law_736 rfl ?_
  refine v_iconst C dL_law_738 ?_
  refine v_iadd C dL_law_739 ?_
  refine v_sld C hX hbN (⟨by omega, by omega⟩) (by omega) (by omega) dL_law_740 ?_
  refine v_i2l C (scI_r _ _) dL_law_741 ?_
  refine v_bipush C dL_law_742 rfl ?_
  refine v_lshl C hs1 dL_law_744 ?_
  refine v_aload_n C dL_law_745 rfl ?_
  refine v_iload C dL_law_746 rfl ?_
  refine v_iconst C dL_law_748 ?_
  refine v_iadd C dL_law_749 ?_
  refine v_sld C hX hbN (⟨by omega, by omega⟩) (by omega) (by omega) dL_law_750 ?_
  refine v_i2l C (scI_r _ _) dL_law_751 ?_
  refine v_ldc2 C (v := 4294967295) (List.mem_of_getElem? (i := 7) rfl) (by decide +kernel) dL_law_752 ?_
  refine v_land C hs2 dL_law_755 ?_
  refine v_lor C hs3 dL_law_756 ?_
  refine v_aload_n C dL_law_757 rfl ?_
  refine v_iload C dL_law_758 rfl ?_
  refine v_iconst C dL_law_760 ?_
  refine v_iadd C dL_law_761 ?_
  refine v_sld C hX hbN (⟨by omega, by omega⟩) (by omega) (by omega) dL_law_762 ?_
  refine v_aload_n C dL_law_763 rfl ?_
  refine v_iload C dL_law_764 rfl ?_
  refine v_bipush C dL_law_766 rfl ?_
  refine v_iadd C dL_law_768 ?_
  refine v_sld C hX hbN (⟨by omega, by omega⟩) (by omega) (by omega) dL_law_769 ?_
  refine v_callVi C (q := (RX7, TX7, 33)) (As := [_, _, _, _]) (rest := []) hM2 (cwV 4 hts gL_law_X7_at rfl rfl rfl (by decide +kernel) ⟨Nat.le_of_ble_eq_true rfl, Nat.le_of_ble_eq_true rfl⟩) hmo1 rfl rfl rfl (Nat.le_of_ble_eq_true rfl) dL_law_770 hfit.1 hfit.2 (fun y w2 hp2 => ?_)
  obtain ⟨f9, hL2, hy⟩ := hp2
  obtain ⟨fs2, hmo2⟩ := hL2.hmo
  refine v_wide (k' := k + mc) (z' := z + ms) (Nat.le_refl _) (Nat.le_refl _) ?_
  rw [nrm_e y]
  refine v_istore C dL_law_773 bsl_8_6 (by decide) rfl ?_
  refine v_aload_n C dL_law_775 rfl ?_
  refine v_callVi C (q := (RX7, TX7, 33)) (As := []) (rest := []) hL2.th (cwV 0 hts gL_law_X7_thrown rfl rfl rfl (by decide +kernel) ⟨Nat.le_of_ble_eq_true rfl, Nat.le_of_ble_eq_true rfl⟩) hmo2 rfl rfl rfl (Nat.le_of_ble_eq_true rfl) dL_law_776 hfit.1 hfit.2 (fun t w3 hp3 => ?_)
  obtain ⟨rfl, rfl⟩ := hp3
  refine v_wide (k' := k + mc) (z' := z + ms) (Nat.le_refl _) (Nat.le_refl _) ?_
  refine v_iload C dL_law_779 rfl ?_
  refine v_icmp_eq C hx hx (tgt := 786) dL_law_781 (by decide) (fun _ => ?_) (fun q => absurd rfl q)
  refine v_iload C dL_law_786 rfl ?_
  refine v_if_ne C hx (tgt := 803) dL_law_788 (by decide) (fun _ => ?_) (fun hz => ?_)
  · refine v_goto C (tgt := 1048) dL_law_803 (by decide) ?_
    exact v_less (ll' := [some (.ref b), some (.ref bk), some (.ref mo), some (.ref o), some (.int (iI i)), none, none, none]) ⟨rfl, rfl, rfl, rfl, rfl, trivial⟩ (next _ _ _ _ _ hL2)
  · refine v_aload_n C dL_law_791 rfl ?_
    refine v_iconst C dL_law_792 ?_
    refine v_lald C hL2.out (⟨by decide, by decide⟩) (Int.le_refl _) (by decide) dL_law_793 ?_
    rw [hy hz]
    refine v_iload C dL_law_794 rfl ?_
    refine v_i2l C (nrm_r y) dL_law_796 ?_
    refine v_lcmp_eq C (⟨by have := (nrm_r y).1; omega, by have := (nrm_r y).2; omega⟩) (⟨by have := (nrm_r y).1; omega, by have := (nrm_r y).2; omega⟩) (tgt := 803) dL_law_797 dL_law_798 (by decide) (fun _ => ?_) (fun q => absurd rfl q)
    refine v_goto C (tgt := 1048) dL_law_803 (by decide) ?_
    exact v_less (ll' := [some (.ref b), some (.ref bk), some (.ref mo), some (.ref o), some (.int (iI i)), none, none, none]) ⟨rfl, rfl, rfl, rfl, rfl, trivial⟩ (next _ _ _ _ _ hL2)
set_option maxRecDepth 100000 in
set_option maxHeartbeats 1000000 in
theorem case_next (C : Cx G p s m args meth c ⟨RL, nm9, ""⟩ cL_law 8 (some .boolean) wsL_law) (hfl : l.stackTraces = false) (hX : va_X b L xs s (gH G)) (hbN : b < gN G) (hL3 : L ≤ 3584) (hi : 0 ≤ i ∧ i + 7 ≤ (L : Int)) (hL : LI G w bk mo o n c0 f k z) (hn : n < 512) (next : ∀ (w' : Wd) (c' : Int) (f' : Int → Int) (k' z' : Nat), LI G w' bk mo o (n + 1) c' f' k' z' → V G p l e room_1 s m args below meth c Q w' k' z' 1048 [some (.ref b), some (.ref bk), some (.ref mo), some (.ref o), some (.int (iI i)), none, none, none] []) : V G p l e room_1 s m args below meth c Q w k z 806 [some (.ref b), some (.ref bk), some (.ref mo), some (.ref o), some (.int (iI i)), none, none, none] [] := by
  have hts := C.2.2.2.2.1
  obtain ⟨mc, ms, P, hfit, hM, hN⟩ := J_next hfl hL hn (scI_r xs (i + 1)) (scI_r xs (i + 2))
  refine v_aload_n C dL_law_806 rfl ?_
  refine v_aload_n C dL_law_807 rfl ?_
  refine v_iload C dL_law_808 rfl ?_
  refine v_iconst C dL_law_810 ?_
  refine v_iadd C dL_law_811 ?_
  refine v_sld C hX hbN (⟨by omega, by omega⟩) (by omega) (by omega) dL_law_812 ?_
  refine v_aload_n C dL_law_813 rfl ?_
  refine v_iload C dL_law_814 rfl ?_
  refine v_iconst C dL_law_816 ?_
  refine v_iadd C dL_law_817 ?_
  refine v_sld C hX hbN (⟨by omega, by omega⟩) (by omega) (by omega) dL_law_818 ?_
  refine v_aload_n C dL_law_819 rfl ?_
  refine v_callH C (b := 0) (t := 0) (ci := 0) (fs := []) (q := (RX7, TX7, 33)) (As := [_, _, _, _]) (rest := []) hM (vx_cwSW 4 hts gL_law_L_next rfl rfl rfl (by decide +kernel) ⟨Nat.le_of_ble_eq_true rfl, Nat.le_of_ble_eq_true rfl⟩) rfl rfl (Nat.le_of_ble_eq_true rfl) dL_law_820 hfit.1 hfit.2 (fun x w1 hp => ?_)
  obtain ⟨⟨fs1, hmo1⟩, hx, hM2⟩ := hN x w1 hp
  refine v_istore C dL_law_823 bsl_8_5 (by decide) rfl ?_
  refine v_aload_n C dL_law_825 rfl ?_
  refine v_aload_n C dL_law_826 rfl ?_
  refine v_iload C dL_law_827 rfl ?_
  refine v_iconst C dL_law_829 ?_
  refine v_iadd C dL_law_830 ?_
  refine v_sld C hX hbN (⟨by omega, by omega⟩) (by omega) (by omega) dL_law_831 ?_
  refine v_aload_n C dL_law_832 rfl ?_
  refine v_iload C dL_law_833 rfl ?_
  refine v_iconst C dL_law_835 ?_
  refine v_iadd C dL_law_836 ?_
  refine v_sld C hX hbN (⟨by omega, by omega⟩) (by omega) (by omega) dL_law_837 ?_
  refine v_callVi C (q := (RX7, TX7, 33)) (As := [_, _]) (rest := []) hM2 (cwV 2 hts gL_law_X7_next rfl rfl rfl (by decide +kernel) ⟨Nat.le_of_ble_eq_true rfl, Nat.le_of_ble_eq_true rfl⟩) hmo1 rfl rfl rfl (Nat.le_of_ble_eq_true rfl) dL_law_838 hfit.1 hfit.2 (fun y w2 hp2 => ?_)
  obtain ⟨f9, hL2, hy⟩ := hp2
  obtain ⟨fs2, hmo2⟩ := hL2.hmo
  refine v_wide (k' := k + mc) (z' := z + ms) (Nat.le_refl _) (Nat.le_refl _) ?_
  rw [nrm_e y]
  refine v_istore C dL_law_841 bsl_8_6 (by decide) rfl ?_
  refine v_aload_n C dL_law_843 rfl ?_
  refine v_callVi C (q := (RX7, TX7, 33)) (As := []) (rest := []) hL2.th (cwV 0 hts gL_law_X7_thrown rfl rfl rfl (by decide +kernel) ⟨Nat.le_of_ble_eq_true rfl, Nat.le_of_ble_eq_true rfl⟩) hmo2 rfl rfl rfl (Nat.le_of_ble_eq_true rfl) dL_law_844 hfit.1 hfit.2 (fun t w3 hp3 => ?_)
  obtain ⟨rfl, rfl⟩ := hp3
  refine v_wide (k' := k + mc) (z' := z + ms) (Nat.le_refl _) (Nat.le_refl _) ?_
  refine v_iload C dL_law_847 rfl ?_
  refine v_icmp_eq C hx hx (tgt := 854) dL_law_849 (by decide) (fun _ => ?_) (fun q => absurd rfl q)
  refine v_iload C dL_law_854 rfl ?_
  refine v_if_ne C hx (tgt := 871) dL_law_856 (by decide) (fun _ => ?_) (fun hz => ?_)
  · refine v_goto C (tgt := 1048) dL_law_871 (by decide) ?_
    exact v_less (ll' := [some (.ref b), some (.ref bk), some (.ref mo), some (.ref o), some (.int (iI i)), none, none, none]) ⟨rfl, rfl, rfl, rfl, rfl, trivial⟩ (next _ _ _ _ _ hL2)
  · refine v_aload_n C dL_law_859 rfl ?_
    refine v_iconst C dL_law_860 ?_
    refine v_lald C hL2.out (⟨by decide, by decide⟩) (Int.le_refl _) (by decide) dL_law_861 ?_
    rw [hy hz]
    refine v_iload C dL_law_862 rfl ?_
    refine v_i2l C (nrm_r y) dL_law_864 ?_
    refine v_lcmp_eq C (⟨by have := (nrm_r y).1; omega, by have := (nrm_r y).2; omega⟩) (⟨by have := (nrm_r y).1; omega, by have := (nrm_r y).2; omega⟩) (tgt := 871) dL_law_865 dL_law_866 (by decide) (fun _ => ?_) (fun q => absurd rfl q)
    refine v_goto C (tgt := 1048) dL_law_871 (by decide) ?_
    exact v_less (ll' := [some (.ref b), some (.ref bk), some (.ref mo), some (.ref o), some (.int (iI i)), none, none, none]) ⟨rfl, rfl, rfl, rfl, rfl, trivial⟩ (next _ _ _ _ _ hL2)
end LWS
