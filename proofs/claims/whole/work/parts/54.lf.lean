section LWS
variable {G : GG} {p : Program} {l : Launch} {e : Env} {s : State} {m : MethodId} {args : Array Value} {below : List Frame} {meth : Method} {c : Code} {Q : State → Prop} {nm9 : String} {w : Wd} {k z pc : Nat} {ll : List (Option Value)} {st : List Value} {b L : Nat} {xs : Nat → Int32} {bk mo o : Nat} {n i c0 : Int} {f : Int → Int}
set_option maxRecDepth 100000 in
set_option maxHeartbeats 1000000 in
theorem law_loop {b L : Nat} {xs : Nat → Int32} (C : Cx G p s m #[.ref b] meth c ⟨RL, nm9, ""⟩ cL_law 8 (some .boolean) wsL_law) (hfl : l.stackTraces = false) (hX : va_X b L xs s (gH G)) (hbN : b < gN G) (hL3 : L ≤ 3584) (hg : gN G = s.heap.size) : ∀ (N : Nat) (i n c0 : Int) (f : Int → Int) (w : Wd) (k z : Nat), i = 7 * n → 0 ≤ n → i ≤ 3584 → (3584 - i).toNat < N → LI G w bk mo o n c0 f k z → V G p l e room_1 s m #[.ref b] below meth c (lw_Z below #[.ref b] s) w k z 23 [some (.ref b), some (.ref bk), some (.ref mo), some (.ref o), some (.int (iI i)), none, none, none] [] := by
  intro N
  induction N with
  | zero =>
    intro i n c0 f w k z h1 h2 h3 h4
    exact absurd h4 (Nat.not_lt_zero _)
  | succ N ih =>
    intro i n c0 f w k z h1 h2 h3 h4 hL
    refine v_iload C dL_law_23 rfl ?_
    refine v_aload_n C dL_law_25 rfl ?_
    refine v_slen C hX hbN dL_law_26 ?_
    refine v_bipush C dL_law_27 rfl ?_
    refine v_isub C dL_law_29 ?_
    refine v_icmp_gt C (⟨by omega, by omega⟩) (⟨by omega, by omega⟩) (tgt := 1054) dL_law_30 (by decide) (fun c1 => ?_) (fun c1 => ?_)
    · refine v_iconst C dL_law_1054 ?_
      intro H locs ls hR hLo hl
      have hf := hL.fit (by omega)
      refine va_forget (fun q hq => by rw [← hg]; exact hLo q hq) ?_
      refine W.widen hf.1 hf.2 ?_
      exact lw_ret C.1 C.2.1 C.2.2.2.2.2.1 C.2.2.2.2.2.2.1 dL_law_1055
    · have hn : n < 512 := by omega
      have hi : 0 ≤ i ∧ i + 7 ≤ (L : Int) := ⟨by omega, by omega⟩
      have next : ∀ (w' : Wd) (c' : Int) (f' : Int → Int) (k' z' : Nat), LI G w' bk mo o (n + 1) c' f' k' z' → V G p l e room_1 s m #[.ref b] below meth c (lw_Z below #[.ref b] s) w' k' z' 1048 [some (.ref b), some (.ref bk), some (.ref mo), some (.ref o), some (.int (iI i)), none, none, none] [] := fun w' c' f' k' z' hL' => by
        refine v_iinc C dL_law_1048 rfl bsl_8_4 (by decide) rfl ?_
        refine v_goto C (tgt := 23) dL_law_1051 (by decide) ?_
        exact ih (i + 7) (n + 1) c' f' w' k' z' (by omega) (by omega) (by omega) (by omega) hL'
      refine v_aload_n C dL_law_33 rfl ?_
      refine v_iload C dL_law_34 rfl ?_
      refine v_sld C hX hbN (⟨by omega, by omega⟩) (by omega) (by omega) dL_law_36 ?_
      refine v_bipush C dL_law_37 rfl ?_
      refine v_iand C (iand_15 _) dL_law_39 ?_
      generalize scI xs i = q9
      have hq : q9 % 16 = 0 ∨ q9 % 16 = 1 ∨ q9 % 16 = 2 ∨ q9 % 16 = 3 ∨ q9 % 16 = 4 ∨ q9 % 16 = 5 ∨ q9 % 16 = 6 ∨ q9 % 16 = 7 ∨ q9 % 16 = 8 ∨ q9 % 16 = 9 ∨ q9 % 16 = 10 ∨ q9 % 16 = 11 ∨ q9 % 16 = 12 ∨ q9 % 16 = 13 ∨ q9 % 16 = 14 ∨ q9 % 16 = 15 := by omega
      rcases hq with hq | hq | hq | hq | hq | hq | hq | hq | hq | hq | hq | hq | hq | hq | hq | hq
      · refine v_tblI C (⟨by omega, by omega⟩) dL_law_40 (by omega) (by omega) (by rw [hq]; rfl) (tgt := 120) (by decide) ?_
        exact case_wire C hfl hX hbN hL3 hi hL hn next
      · refine v_tblI C (⟨by omega, by omega⟩) dL_law_40 (by omega) (by omega) (by rw [hq]; rfl) (tgt := 176) (by decide) ?_
        exact case_wires C hfl hX hbN hL3 hi hL hn next
      · refine v_tblI C (⟨by omega, by omega⟩) dL_law_40 (by omega) (by omega) (by rw [hq]; rfl) (tgt := 189) (by decide) ?_
        exact case_width C hfl hX hbN hL3 hi hL hn next
      · refine v_tblI C (⟨by omega, by omega⟩) dL_law_40 (by omega) (by omega) (by rw [hq]; rfl) (tgt := 245) (by decide) ?_
        exact case_open C hfl hX hbN hL3 hi hL hn next
      · refine v_tblI C (⟨by omega, by omega⟩) dL_law_40 (by omega) (by omega) (by rw [hq]; rfl) (tgt := 357) (by decide) ?_
        exact case_change C hfl hX hbN hL3 hi hL hn next
      · refine v_tblI C (⟨by omega, by omega⟩) dL_law_40 (by omega) (by omega) (by rw [hq]; rfl) (tgt := 444) (by decide) ?_
        exact case_close C hfl hX hbN hL3 hi hL hn next
      · refine v_tblI C (⟨by omega, by omega⟩) dL_law_40 (by omega) (by omega) (by rw [hq]; rfl) (tgt := 488) (by decide) ?_
        exact case_moments C hfl hX hbN hL3 hi hL hn next
      · refine v_tblI C (⟨by omega, by omega⟩) dL_law_40 (by omega) (by omega) (by rw [hq]; rfl) (tgt := 501) (by decide) ?_
        exact case_moment C hfl hX hbN hL3 hi hL hn next
      · refine v_tblI C (⟨by omega, by omega⟩) dL_law_40 (by omega) (by omega) (by rw [hq]; rfl) (tgt := 568) (by decide) ?_
        exact case_changed C hfl hX hbN hL3 hi hL hn next
      · refine v_tblI C (⟨by omega, by omega⟩) dL_law_40 (by omega) (by omega) (by rw [hq]; rfl) (tgt := 648) (by decide) ?_
        exact case_at C hfl hX hbN hL3 hi hL hn next
      · refine v_tblI C (⟨by omega, by omega⟩) dL_law_40 (by omega) (by omega) (by rw [hq]; rfl) (tgt := 806) (by decide) ?_
        exact case_next C hfl hX hbN hL3 hi hL hn next
      · refine v_tblI C (⟨by omega, by omega⟩) dL_law_40 (by omega) (by omega) (by rw [hq]; rfl) (tgt := 874) (by decide) ?_
        exact case_size C hfl hX hbN hL3 hi hL hn next
      · refine v_tblI C (⟨by omega, by omega⟩) dL_law_40 (by omega) (by omega) (by rw [hq]; rfl) (tgt := 887) (by decide) ?_
        exact case_byteAt C hfl hX hbN hL3 hi hL hn next
      · refine v_tblI C (⟨by omega, by omega⟩) dL_law_40 (by omega) (by omega) (by rw [hq]; rfl) (tgt := 943) (by decide) ?_
        exact case_feed C hfl hX hbN hL3 hi hL hn next
      · refine v_tblI C (⟨by omega, by omega⟩) dL_law_40 (by omega) (by omega) (by rw [hq]; rfl) (tgt := 999) (by decide) ?_
        exact case_end C hfl hX hbN hL3 hi hL hn next
      · refine v_tblI C (⟨by omega, by omega⟩) dL_law_40 (by omega) (by omega) (by rw [hq]; rfl) (tgt := 1035) (by decide) ?_
        exact case_load C hfl hX hbN hL3 hi hL hn next
end LWS
