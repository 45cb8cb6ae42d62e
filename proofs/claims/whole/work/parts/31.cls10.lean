theorem bsk_10_9 {x0 x1 x2 x3 x4 x5 x6 x7 x8 x9 : Option Value} : stK [x0, x1, x2, x3, x4, x5, x6, x7, x8, x9] 9 = [x0, x1, x2, x3, x4, x5, x6, x7, x8, none] := rfl
theorem bsl_10_7 {x0 x1 x2 x3 x4 x5 x6 x7 x8 x9 : Option Value} {v : Value} : stL [x0, x1, x2, x3, x4, x5, x6, x7, x8, x9] 7 v = [x0, x1, x2, x3, x4, x5, x6, some v, x8, x9] := rfl
theorem bsl_10_8 {x0 x1 x2 x3 x4 x5 x6 x7 x8 x9 : Option Value} {v : Value} : stL [x0, x1, x2, x3, x4, x5, x6, x7, x8, x9] 8 v = [x0, x1, x2, x3, x4, x5, x6, x7, some v, x9] := rfl
theorem bsl_10_9 {x0 x1 x2 x3 x4 x5 x6 x7 x8 x9 : Option Value} {v : Value} : stL [x0, x1, x2, x3, x4, x5, x6, x7, x8, x9] 9 v = [x0, x1, x2, x3, x4, x5, x6, x7, x8, some v] := rfl
/-- a moment of a list, by its number -/
def mI (ML : List (Int × Int × List (Int × Int))) (i : Int) : Int × Int × List (Int × Int) := ML[i.toNat]?.getD (0, 0, [])
theorem dropM {ML : List (Int × Int × List (Int × Int))} {i : Int} (h0 : 0 ≤ i) (h : i < ML.length) : ML.drop i.toNat = mI ML i :: ML.drop (i + 1).toNat := by
  have hk : i.toNat < ML.length := by omega
  rw [List.drop_eq_getElem_cons hk, show (i + 1).toNat = i.toNat + 1 by omega]
  congr 1
  unfold mI
  rw [List.getElem?_eq_getElem hk]
  rfl
/-- the value behind a moment's changes -/
def mvL : List (Int × Int) → Int → Int → Int
  | [], _, v => v
  | q :: l, P, v => if q.1 = P then q.2 else mvL l P v
theorem mvL_no : ∀ {L : List (Int × Int)} {P v : Int}, (∀ j : Int, 0 ≤ j → j < (L.length : Int) → pwL L j ≠ P) → mvL L P v = v
  | [], _, _, _ => rfl
  | q :: l, P, v, h => by
    have h0 := h 0 (by omega) (by simp only [List.length_cons]; omega)
    have e0 : pwL (q :: l) 0 = q.1 := rfl
    show (if q.1 = P then q.2 else mvL l P v) = v
    rw [if_neg (by rw [← e0]; exact h0)]
    refine mvL_no fun j a b => ?_
    have h1 := h (j + 1) (by omega) (by simp only [List.length_cons]; omega)
    have e1 : pwL (q :: l) (j + 1) = pwL l j := by
      unfold pwL
      rw [show (j + 1).toNat = j.toNat + 1 by omega]
      rfl
    rw [e1] at h1
    exact h1
theorem mvL_at : ∀ {L : List (Int × Int)} {P v j : Int}, (∀ i k : Int, 0 ≤ i → i < k → k < (L.length : Int) → pwL L i < pwL L k) → 0 ≤ j → j < (L.length : Int) → pwL L j = P → mvL L P v = vlL L j
  | [], _, _, j, _, h0, h1, _ => by simp at h1; omega
  | q :: l, P, v, j, hs, h0, h1, h2 => by
    have e0 : pwL (q :: l) 0 = q.1 := rfl
    show (if q.1 = P then q.2 else mvL l P v) = _
    by_cases g : j = 0
    · subst g
      rw [if_pos (by rw [← e0]; exact h2)]
      rfl
    · have h3 := hs 0 j (by omega) (by omega) h1
      rw [if_neg (by rw [← e0]; omega)]
      have ep : ∀ i : Int, 0 ≤ i → pwL (q :: l) (i + 1) = pwL l i := fun i hi => by
        unfold pwL
        rw [show (i + 1).toNat = i.toNat + 1 by omega]
        rfl
      have ev : vlL (q :: l) j = vlL l (j - 1) := by
        unfold vlL
        rw [show j.toNat = (j - 1).toNat + 1 by omega]
        rfl
      rw [ev]
      refine mvL_at (fun i k a b c => ?_) (by omega) (by simp at h1; omega) (by rw [← ep _ (by omega), show j - 1 + 1 = j by omega]; exact h2)
      rw [← ep i a, ← ep k (by omega)]
      exact hs _ _ (by omega) (by omega) (by simp; omega)
/-- the value behind all moments not later than t, s -/
def vbL (t s P : Int) : List (Int × Int × List (Int × Int)) → Int → Int
  | [], v => v
  | q :: l, v => if t < q.1 ∨ (q.1 = t ∧ s < q.2.1) then v else vbL t s P l (mvL q.2.2 P v)
theorem vbL_go {t s P v : Int} {q : Int × Int × List (Int × Int)} {l : List (Int × Int × List (Int × Int))} (h : ¬ (t < q.1 ∨ (q.1 = t ∧ s < q.2.1))) : vbL t s P (q :: l) v = vbL t s P l (mvL q.2.2 P v) := if_neg h
theorem vbL_stop {t s P v : Int} {q : Int × Int × List (Int × Int)} {l : List (Int × Int × List (Int × Int))} (h : t < q.1 ∨ (q.1 = t ∧ s < q.2.1)) : vbL t s P (q :: l) v = v := if_pos h
/-- all moments of a row as they lie -/
def MMs (G : GG) (w : Wd) (M : Int → Nat) (ML : List (Int × Int × List (Int × Int))) (pl : Int → Int) (bf : Int → Int → Int) : Prop := ∀ i : Int, 0 ≤ i → i < (ML.length : Int) → MomAt G w (M i) (mI ML i).1 (mI ML i).2.1 (pl i) ((mI ML i).2.2.length) (pwL (mI ML i).2.2) (vlL (mI ML i).2.2) (bf i)
/-- what holds of the list itself -/
def MOk (ML : List (Int × Int × List (Int × Int))) : Prop := ∀ i : Int, 0 ≤ i → i < (ML.length : Int) → (0 ≤ (mI ML i).1 ∧ (mI ML i).1 < 1152921504606846976 ∧ 0 ≤ (mI ML i).2.1 ∧ (mI ML i).2.1 < 1152921504606846976) ∧ Srt (mI ML i).2.2.length (pwL (mI ML i).2.2) ∧ ∀ j : Int, 0 ≤ j → j < ((mI ML i).2.2.length : Int) → 0 ≤ vlL (mI ML i).2.2 j ∧ vlL (mI ML i).2.2 j ≤ 8
theorem MMs.fr {G : GG} {w w2 : Wd} {S : Nat → Prop} {M : Int → Nat} {ML : List (Int × Int × List (Int × Int))} {pl : Int → Int} {bf : Int → Int → Int} (h : MMs G w M ML pl bf) (hF : Fr S w w2) (hS : ∀ i : Int, 0 ≤ i → i < (ML.length : Int) → ∀ t, 100 + 4 * M i ≤ t → t < 104 + 4 * M i → ¬ S t) : MMs G w2 M ML pl bf := fun i a b =>
  (h i a b).fr hF (hS i a b _ (by omega) (by omega)) (hS i a b _ (by omega) (by omega)) (hS i a b _ (by omega) (by omega)) (hS i a b _ (by omega) (by omega))
theorem MMs.mem {G : GG} {w : Wd} {M : Int → Nat} {ML : List (Int × Int × List (Int × Int))} {pl : Int → Int} {bf : Int → Int → Int} (h : MMs G w M ML pl bf) : Mem w (fun t => t % 4 = 0 ∧ 100 ≤ t) 5 ML.length M := fun i a b => by
  obtain ⟨fs, q⟩ := (h i a b).obj
  exact ⟨_, fs, ⟨by omega, by omega⟩, q⟩
set_option maxRecDepth 100000 in
set_option maxHeartbeats 400000 in
theorem c_X4_valueBehind {G : GG} {l : Launch} {w : Wd} {r : Nat} {T bt ml vk : Nat} {len cap vcap : Int} {b vf : Int → Int} {M : Int → Nat} {ML : List (Int × Int × List (Int × Int))} {pl9 : Int → Int} {bf9 : Int → Int → Int} {t9 s9 : Int} {wi el : Int} (hB : RowR G w T r bt ml vk len cap b ML.length M vcap vf) (hMs : MMs G w M ML pl9 bf9) (hOk : MOk ML) (hw : 0 ≤ wi ∧ wi < 200) (he : 0 ≤ el ∧ el < 64) (ht9 : R64 t9) (hs9 : R64 s9) : MG G l yX4_valueBehind wsX4_valueBehind 6 240 (0) (0) [.ref r, .long (lI t9), .long (lI s9), .int (iI wi), .int (iI el)] w (pI (fun (x : Int) (w' : Wd) => (x = vbL t9 s9 (64 * wi + el) ML 0 ∧ 0 ≤ x ∧ x ≤ 8) ∧ w' = w)) := by
  refine MG.of (cc := cX4_valueBehind) (nL := 10) (ret := (some .int)) (ll := [some (.ref r), some (.long (lI t9)), none, some (.long (lI s9)), none, some (.int (iI wi)), some (.int (iI el)), none, none, none]) (by decide) rfl (Nat.le_of_ble_eq_true rfl) rfl ?_
  intro p e s m args below meth c C
  have hts := C.2.2.2.2.1
  have g21 : GetF G s m args 21 7 1 := getF_of C 7 1 (T := TX4) (N := 3) (Cn := RX4) (ref := "TraceBook$Row") rfl (by decide) (fun _ h => List.mem_cons_of_mem _ (List.mem_append_left _ (List.mem_append_left _ (List.mem_append_left _ (List.mem_append_right _ (h)))))) (List.mem_of_getElem? (i := 1) rfl) (fun _ h => h)
  refine poI (P := fun PO => V G p l e _ s m args below meth c (MQW G below args s _ _ (pI PO)) w 0 0 0 _ []) (fun PO hPO => ?_)
  obtain ⟨h1, hBy, hLs, hVa, hvc, hvf⟩ := hB
  have hn0 := hLs.rg
  have hb0 := hBy.rg
  refine v_iconst C dX4_valueBehind_0 ?_
  refine v_istore C dX4_valueBehind_1 bsl_10_7 (by decide) rfl ?_
  refine v_iconst C dX4_valueBehind_3 ?_
  refine v_istore C dX4_valueBehind_4 bsl_10_8 (by decide) rfl ?_
  have L6 : ∀ (N : Nat) (i9 v9 : Int), (0 ≤ i9 ∧ i9 ≤ ML.length) → (0 ≤ v9 ∧ v9 ≤ 8) → (vbL t9 s9 (64 * wi + el) (ML.drop i9.toNat) v9 = vbL t9 s9 (64 * wi + el) ML 0) → (ML.length - i9).toNat < N → V G p l e { frames := 6, cells := 0, slots := 0, locals := 240 } s m args below meth c (MQW G below args s (0) (0) (pI PO)) w (0) (0) 6 [some (.ref r), some (.long (lI t9)), none, some (.long (lI s9)), none, some (.int (iI wi)), some (.int (iI el)), some (.int (iI v9)), some (.int (iI i9)), none] [] := by
    intro N
    induction N with
    | zero => intro i9 v9 hi hv hx hm; exact absurd hm (Nat.not_lt_zero _)
    | succ N ih =>
      intro i9 v9 hi hv hx hm
      refine v_iload C dX4_valueBehind_6 rfl ?_
      refine v_aload_n C dX4_valueBehind_8 rfl ?_
      refine v_getf C g21 h1 rfl dX4_valueBehind_9 ?_
      refine v_callVi C (q := (RJx4a65c, TJx4a65c, 3)) (As := []) (rest := [_]) (c_Jx4a65c_size_8abf5 hLs) (cwV 0 hts gX4_valueBehind_Jx4a65c_size_8abf5 rfl rfl rfl (by decide +kernel) ⟨Nat.le_of_ble_eq_true rfl, Nat.le_of_ble_eq_true rfl⟩) (hLs.obj.choose_spec) rfl rfl rfl (Nat.le_of_ble_eq_true rfl) dX4_valueBehind_12 (by dsimp only; omega) (by dsimp only; omega) (fun x_12 w hp => ?_)
      obtain ⟨hx9b, rfl⟩ := hp
      rw [hx9b]
      refine v_wide (k' := 0) (z' := 0) (Nat.le_refl _) (Nat.le_refl _) ?_
      refine v_icmp_ge C (⟨by omega, by omega⟩) (⟨by omega, by omega⟩) (tgt := 64) dX4_valueBehind_15 (by decide) (fun c_15 => ?_) (fun c_15 => ?_)
      · refine v_iload C dX4_valueBehind_64 rfl ?_
        exact v_iret C rfl dX4_valueBehind_66 (by omega) (by omega) (hPO _ _ ⟨⟨by rw [← hx, show ML.drop i9.toNat = [] from List.drop_eq_nil_of_le (by omega)]; rfl, hv.1, hv.2⟩, rfl⟩)
      · have eD := dropM (ML := ML) hi.1 (by omega : i9 < ML.length)
        have hok := hOk i9 hi.1 (by omega)
        obtain ⟨ht1, ht2, ht3, ht4⟩ := hok.1
        obtain ⟨lr, LL, hm1, hmL, hmC⟩ := hMs i9 hi.1 (by omega)
        refine v_aload_n C dX4_valueBehind_18 rfl ?_
        refine v_getf C g21 h1 rfl dX4_valueBehind_19 ?_
        refine v_iload C dX4_valueBehind_22 rfl ?_
        refine v_callVr C (q := (RJx4a65c, TJx4a65c, 3)) (As := [_]) (rest := []) (c_Jx4a65c_get_915e3 hLs (i := i9) ⟨by omega, by omega⟩) (cwV 1 hts gX4_valueBehind_Jx4a65c_get_915e3 rfl rfl rfl (by decide +kernel) ⟨Nat.le_of_ble_eq_true rfl, Nat.le_of_ble_eq_true rfl⟩) (hLs.obj.choose_spec) rfl rfl rfl (Nat.le_of_ble_eq_true rfl) dX4_valueBehind_24 (by dsimp only; omega) (by dsimp only; omega) (fun x_24 w hp => ?_)
        obtain ⟨rfl, rfl⟩ := hp
        refine v_wide (k' := 0) (z' := 0) (Nat.le_refl _) (Nat.le_refl _) ?_
        refine v_castY C (hm1) rfl (List.mem_of_getElem? (i := 2) rfl) rfl dX4_valueBehind_27 ?_
        refine v_astore C dX4_valueBehind_30 bsl_10_9 (by decide) rfl ?_
        refine v_aload C dX4_valueBehind_32 rfl ?_
        refine v_lload_n C dX4_valueBehind_34 rfl ?_
        refine v_lload_n C dX4_valueBehind_35 rfl ?_
        refine v_callVi C (q := (RX2, TX2, 4)) (As := [_, _]) (rest := []) (c_X2_isLaterThan hm1 ⟨⟨by omega, by omega⟩, ⟨by omega, by omega⟩⟩ ⟨ht9, hs9⟩) (cwV 2 hts gX4_valueBehind_X2_isLaterThan rfl rfl rfl (by decide +kernel) ⟨Nat.le_of_ble_eq_true rfl, Nat.le_of_ble_eq_true rfl⟩) (hm1) rfl rfl rfl (Nat.le_of_ble_eq_true rfl) dX4_valueBehind_36 (by dsimp only; omega) (by dsimp only; omega) (fun x_36 w hp => ?_)
        obtain ⟨hx_36, rfl⟩ := hp
        refine v_wide (k' := 0) (z' := 0) (Nat.le_refl _) (Nat.le_refl _) ?_
        refine v_if_eq C (hx_36.r32) (tgt := 45) dX4_valueBehind_39 (by decide) (fun c_39 => ?_) (fun c_39 => ?_)
        · refine v_aload C dX4_valueBehind_45 rfl ?_
          refine v_iload C dX4_valueBehind_47 rfl ?_
          refine v_iload C dX4_valueBehind_49 rfl ?_
          refine v_iload C dX4_valueBehind_51 rfl ?_
          refine v_callVi C (q := (RX2, TX2, 4)) (As := [_, _, _]) (rest := []) (c_X2_valueBehind ⟨lr, LL, hm1, hmL, hmC⟩ hok.2.1 hw he) (cwV 3 hts gX4_valueBehind_X2_valueBehind rfl rfl rfl (by decide +kernel) ⟨Nat.le_of_ble_eq_true rfl, Nat.le_of_ble_eq_true rfl⟩) (hm1) rfl rfl rfl (Nat.le_of_ble_eq_true rfl) dX4_valueBehind_53 (by dsimp only; omega) (by dsimp only; omega) (fun x_53 w hp => ?_)
          obtain ⟨hx53, rfl⟩ := hp
          have hxv : mvL (mI ML i9).2.2 (64 * wi + el) v9 = x_53 := by
            rcases hx53 with ⟨j, a, q, e⟩ | ⟨q, e⟩
            · rw [e]; exact mvL_at hok.2.1.2 a.1 a.2 q
            · rw [e]; exact mvL_no q
          have hxr : 0 ≤ x_53 ∧ x_53 ≤ 8 := by
            rcases hx53 with ⟨j, a, q, e⟩ | ⟨q, e⟩
            · rw [e]; exact hok.2.2 j a.1 a.2
            · rw [e]; exact hv
          clear hx53
          refine v_wide (k' := 0) (z' := 0) (Nat.le_refl _) (Nat.le_refl _) ?_
          refine v_istore C dX4_valueBehind_56 bsl_10_7 (by decide) rfl ?_
          refine v_iinc C dX4_valueBehind_58 rfl bsl_10_8 (by decide) rfl ?_
          refine v_goto C (tgt := 6) dX4_valueBehind_61 (by decide) ?_
          refine v_kill 9 bsk_10_9 ?_
          exact ih (i9 + 1) x_53 ⟨by omega, by omega⟩ hxr (by rw [← hx, eD, vbL_go (hx_36.z c_39), hxv]) (by omega)
        · refine v_iload C dX4_valueBehind_42 rfl ?_
          exact v_iret C rfl dX4_valueBehind_44 (by omega) (by omega) (hPO _ _ ⟨⟨by rw [← hx, eD, vbL_stop (hx_36.nz c_39)], hv.1, hv.2⟩, rfl⟩)
  exact L6 _ 0 0 ⟨by omega, by omega⟩ ⟨by omega, by omega⟩ rfl (Nat.lt_succ_self _)
