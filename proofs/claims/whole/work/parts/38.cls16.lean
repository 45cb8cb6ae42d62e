theorem bsk_3_2 {x0 x1 x2 : Option Value} : stK [x0, x1, x2] 2 = [x0, x1, none] := rfl
theorem bsl_3_1 {x0 x1 x2 : Option Value} {v : Value} : stL [x0, x1, x2] 1 v = [x0, some v, x2] := rfl
theorem encAll_app : ∀ (a b : ML3) (lt ls : Int) (S : Int → Int), encAll lt ls S (a ++ b) = encAll lt ls S a ++ encAll (lasT lt a) (lasS ls a) (sall S a) b
  | [], _, _, _, _ => rfl
  | x :: a, b, lt, ls, S => by
    show encM x.1 x.2.1 lt ls (sfold S x.2.2) (x.2.2.map Prod.fst) ++ encAll x.1 x.2.1 (sfold S x.2.2) (a ++ b) = (encM x.1 x.2.1 lt ls (sfold S x.2.2) (x.2.2.map Prod.fst) ++ encAll x.1 x.2.1 (sfold S x.2.2) a) ++ _
    rw [encAll_app, List.append_assoc]
    rfl
theorem encAll_pre {a b c : ML3} (h : c = a ++ b) {lt ls : Int} {S : Int → Int} : (encAll lt ls S a).length ≤ (encAll lt ls S c).length := by
  rw [h, encAll_app, List.length_append]
  omega
theorem gv1_ge {c p : Int} (h : 0 ≤ c) : c ≤ gv1 c p := by
  unfold gv1
  by_cases q : c ≤ p
  · rw [if_pos q]
    by_cases q2 : p + 1 < 2 * c
    · rw [if_pos q2]; omega
    · rw [if_neg q2]; omega
  · rw [if_neg q]; omega
theorem gvc_ge : ∀ {L : List (Int × Int)} {c : Int}, 0 ≤ c → c ≤ gvc c L
  | [], c, _ => Int.le_refl _
  | q :: l, c, h => by
    have h1 := gv1_ge (p := q.1) h
    have h2 := gvc_ge (L := l) (c := gv1 c q.1) (by omega)
    show c ≤ gvc (gv1 c q.1) l
    omega
theorem gva_ge : ∀ {ML : ML3} {c : Int}, 0 ≤ c → c ≤ gva c ML
  | [], c, _ => Int.le_refl _
  | q :: l, c, h => by
    have h1 := gvc_ge (L := q.2.2) h
    have h2 := gva_ge (ML := l) (c := gvc c q.2.2) (by omega)
    show c ≤ gva (gvc c q.2.2) l
    omega
theorem gva_pre {a b d : ML3} (h : d = a ++ b) {c : Int} (hc : 0 ≤ c) : gva c a ≤ gva c d := by
  have := gva_ge (ML := a) hc
  rw [h, gva_app]
  exact gva_ge (by omega)
theorem pro_f2 {T : Int → Int} {N nw a t s : Int} {A1 S : Int → Int} (h : ¬ N ≤ a) (hf : (pmo T N nw A1 a t s S).1 ≠ -1) : pro T N nw A1 a t s S = ((pmo T N nw A1 a t s S).1, []) := by rw [pro, dif_neg h, if_pos hf]
/-- no moment at a, ever since -/
theorem FrO.snoc {S S' : Nat → Prop} {w w1 w2 : Wd} {a : Nat} (h : FrO S w w1) (h' : Fr S' w1 w2) (hS : ∀ t, S' t → S t ∨ t = 100 + 4 * a) (hn : ∀ vs, w a = some (100 + 4 * a, .inr (5, vs)) → False) : FrO S w w2 := fun b t e hs ho hb => by
  refine h' b t e (fun q => ?_) (h b t e hs ho hb)
  rcases hS t q with q | q
  · exact hs q
  · obtain ⟨vs, g⟩ := ho (by omega)
    rw [show (t - 100) / 4 = a by omega] at g
    exact hn vs g
theorem FrO.rf {S : Nat → Prop} {w : Wd} : FrO S w w := fun _ _ _ _ _ h => h
section RM9
variable {G : GG} {w w2 : Wd} {S : Nat → Prop}
/-- a row and the list of moments that it holds -/
def RowM (G : GG) (w : Wd) (T r : Nat) (cap vcap : Int) (ML : ML3) (M : Int → Nat) : Prop := ∃ (bt ml vk : Nat) (b vf : Int → Int), RowR G w T r bt ml vk (encAll 0 (-1) (fun _ => 0) ML).length cap b ML.length M vcap vf ∧ holds b 0 (encAll 0 (-1) (fun _ => 0) ML) ∧ ext vf vcap = sall (fun _ => 0) ML ∧ MMs G w M ML (plF ML) (bfF ML)
theorem RowM.fr {T r : Nat} {cap vcap : Int} {ML : ML3} {M : Int → Nat} (h : RowM G w T r cap vcap ML M) (hF : Fr S w w2) (h0 : ∀ t, T ≤ t → t < T + 6 → ¬ S t) (h1 : ∀ i : Int, 0 ≤ i → i < ML.length → ∀ t, 100 + 4 * M i ≤ t → t < 104 + 4 * M i → ¬ S t) : RowM G w2 T r cap vcap ML M := by
  obtain ⟨bt, ml, vk, b, vf, g1, g2, g3, g4⟩ := h
  exact ⟨bt, ml, vk, b, vf, g1.fr hF (h0 _ (by omega) (by omega)) (h0 _ (by omega) (by omega)) (h0 _ (by omega) (by omega)) (h0 _ (by omega) (by omega)) (h0 _ (by omega) (by omega)) (h0 _ (by omega) (by omega)), g2, g3, g4.fr hF h1⟩
theorem RowM.frO {T r : Nat} {cap vcap : Int} {ML : ML3} {M : Int → Nat} (h : RowM G w T r cap vcap ML M) (hF : FrO S w w2) (hT : T + 6 ≤ 100) (h0 : ∀ t, T ≤ t → t < T + 6 → ¬ S t) (h1 : ∀ t, 100 ≤ t → ¬ S t) : RowM G w2 T r cap vcap ML M := by
  obtain ⟨bt, ml, vk, b, vf, g1, g2, g3, g4⟩ := h
  have k : ∀ t, T ≤ t → t < T + 6 → ¬ (S t ∨ 100 ≤ t) := fun t a b q => by
    rcases q with q | q
    · exact h0 t a b q
    · omega
  exact ⟨bt, ml, vk, b, vf, g1.fr hF.lo (k _ (by omega) (by omega)) (k _ (by omega) (by omega)) (k _ (by omega) (by omega)) (k _ (by omega) (by omega)) (k _ (by omega) (by omega)) (k _ (by omega) (by omega)), g2, g3, fun i a b => (g4 i a b).frO hF (fun t x y => h1 t (by omega))⟩
theorem RowM.obj {T r : Nat} {cap vcap : Int} {ML : ML3} {M : Int → Nat} (h : RowM G w T r cap vcap ML M) : ∃ fs, w r = some (T, .inr (7, fs)) := by
  obtain ⟨bt, ml, vk, b, vf, g1, -⟩ := h
  exact g1.obj
theorem RowM.last {T r : Nat} {cap vcap : Int} {ML : ML3} {M : Int → Nat} (h : RowM G w T r cap vcap ML M) : LastM w ML.length M (lasT 0 ML) (lasS (-1) ML) := fun hn => by
  obtain ⟨bt, ml, vk, b, vf, -, -, -, g4⟩ := h
  obtain ⟨lr, LL, q, -⟩ := g4 (ML.length - 1) (by omega) (by omega)
  have hl := mI_last (ML := ML) (t := 0) (s := -1) hn
  rw [hl.1, hl.2] at q
  exact ⟨_, _, q⟩
theorem RowM.nil {T r bt ml vk : Nat} {cap vcap : Int} {b vf : Int → Int} {M : Int → Nat} (h : RowR G w T r bt ml vk 0 cap b 0 M vcap vf) (hz : ∀ j, 0 ≤ j → j < vcap → vf j = 0) : RowM G w T r cap vcap [] M := ⟨bt, ml, vk, b, vf, h, trivial, funext fun j => by
  by_cases q : 0 ≤ j ∧ j < vcap
  · rw [ext_in q.1 q.2]; exact hz j q.1 q.2
  · rw [ext_out q]; rfl, fun i a b => absurd b (by show ¬ i < (0 : Int); omega)⟩
theorem RowM.mem {T r : Nat} {cap vcap : Int} {ML : ML3} {M : Int → Nat} (h : RowM G w T r cap vcap ML M) {i : Int} (h0 : 0 ≤ i) (h1 : i < ML.length) : ∃ vs, w (M i) = some (100 + 4 * M i, .inr (5, vs)) := by
  obtain ⟨bt, ml, vk, b, vf, -, -, -, g4⟩ := h
  exact (g4 i h0 h1).obj
theorem RowM.cap {T r : Nat} {cap vcap : Int} {ML : ML3} {M : Int → Nat} (h : RowM G w T r cap vcap ML M) : (0 ≤ cap ∧ ((encAll 0 (-1) (fun _ => 0) ML).length : Int) ≤ cap ∧ 64 ≤ cap ∧ cap ≤ 1000000) ∧ (64 ≤ vcap ∧ vcap ≤ 25600) := by
  obtain ⟨bt, ml, vk, b, vf, g1, -⟩ := h
  have := g1.2.1.rg
  exact ⟨⟨by omega, by omega, by omega, by omega⟩, g1.2.2.2.2.1⟩
theorem encAll_len2 {nw : Int} {A1 : Int → Int} {L : List (Int × Int)} {ML : ML3} {t s : Int} (h : okC nw A1 (-1) (sall (fun _ => 0) ML) L) : ((encAll 0 (-1) (fun _ => 0) (ML ++ [(t, s, L)])).length : Int) = (encAll 0 (-1) (fun _ => 0) ML).length + (encM2 t s (lasT 0 ML) (lasS (-1) ML) L).length := by
  rw [encAll_snoc, List.length_append, encM2_eq h]
  exact Int.natCast_add _ _
theorem c_append {l : Launch} {T r a : Nat} {cap vcap nw t s pl cap2 : Int} {ML : ML3} {M : Int → Nat} {A1 : Int → Int} {L : List (Int × Int)} (hB : RowM G w T r cap vcap ML M) (hT : 0 < T ∧ T < 90) (hok : okL nw A1 0 (-1) (fun _ => 0) ML) (hnw : 0 ≤ nw ∧ nw ≤ 200)
    (hMo : MomAt G w a t s pl L.length (pwL L) (vlL L) (fun j => sall (fun _ => 0) ML (pwL L j))) (ht : 0 ≤ t ∧ t < 1152921504606846976 ∧ 0 ≤ s ∧ s < 1152921504606846976) (hlt : lasT 0 ML < t ∨ (lasT 0 ML = t ∧ lasS (-1) ML < s)) (hL : okC nw A1 (-1) (sall (fun _ => 0) ML) L)
    (ha : ∀ i : Int, 0 ≤ i → i < ML.length → M i ≠ a) (hc : Cap cap ((encAll 0 (-1) (fun _ => 0) (ML ++ [(t, s, L)])).length : Int) cap2) (hc2 : cap2 ≤ 1000000) (hfit : ((encAll 0 (-1) (fun _ => 0) (ML ++ [(t, s, L)])).length : Int) ≤ 60000) (hn : (ML.length : Int) ≤ 100000) :
    MG G l yX4_append wsX4_append 8 320 (((cap2 - cap).toNat + 1 + (gvc vcap L - vcap).toNat)) (((2 * (cap2 - cap)).toNat + ((ML.length : Int) + (ML.length : Int) / 2 + 10).toNat + (2 * (gvc vcap L - vcap)).toNat)) [.ref r, .ref a] w (pI (fun (x : Int) (w' : Wd) => x = 1 ∧ RowM G w' T r cap2 (gvc vcap L) (ML ++ [(t, s, L)]) (upA M ML.length a) ∧ Fr (fun t => t = T ∨ t = T + 1 ∨ t = T + 2 ∨ t = T + 3 ∨ t = T + 4 ∨ t = T + 5 ∨ t = 0 ∨ t = 100 + 4 * a) w w')) := by
  have hlast := hB.last
  obtain ⟨bt, ml, vk, b, vf, h1, h2, h3, h4⟩ := hB
  have el := encAll_len2 (t := t) (s := s) hL
  have hlas := okL_las hok ⟨by omega, by omega, by omega, by omega⟩
  obtain ⟨hS, hV⟩ := okC_srt hnw.2 hL
  have e0 : (ML.length : Int) = 0 → lasT 0 ML = 0 ∧ lasS (-1) ML = -1 := fun q => by
    have : ML = [] := List.length_eq_zero_iff.mp (by omega)
    subst this
    exact ⟨rfl, rfl⟩
  rw [el] at hc hfit
  refine (c_X4_append (t9 := t) (s9 := s) (lt := lasT 0 ML) (ls := lasS (-1) ML) (lt9 := lasT 0 ML) (ls9 := lasS (-1) ML) (cap2 := cap2) (L := L) h1 hlast hMo hT ht ⟨hlas.1, by omega, by omega, by omega, fun q => by omega⟩ ?_ ?_ hS hV hc hc2 hfit (by omega) h4.mem).imp fun v w' hv => ?_
  · by_cases q : (ML.length : Int) = 0
    · rw [if_pos q]; exact (e0 q).1
    · rw [if_neg q]
  · by_cases q : (ML.length : Int) = 0
    · rw [if_pos q]; exact (e0 q).2
    · rw [if_neg q]
  · obtain ⟨x, hv, hx1, ⟨vk2, f2, hR2, hf2⟩, hMo2, hF⟩ := hv
    refine ⟨x, hv, hx1, ⟨bt, ml, vk2, putL b (encAll 0 (-1) (fun _ => 0) ML).length (encM2 t s (lasT 0 ML) (lasS (-1) ML) L), f2, ?_, ?_, ?_, ?_⟩, hF⟩
    · rw [el, show ((ML ++ [(t, s, L)]).length : Int) = ML.length + 1 by rw [List.length_append]; rfl]
      exact hR2
    · rw [encAll_snoc]
      show holds (putL b _ _) 0 (_ ++ encM t s (lasT 0 ML) (lasS (-1) ML) (sfold (sall (fun _ => 0) ML) L) (L.map Prod.fst))
      rw [← encM2_eq hL]
      exact holds_apP h2 rfl
    · rw [sall_snoc, hf2, h3]
    · intro i i0 i1
      by_cases c : i < ML.length
      · have hm := (h4 i i0 c).fr hF (fun g => by have := ha i i0 c; omega) (fun g => by have := ha i i0 c; omega) (fun g => by have := ha i i0 c; omega) (fun g => by have := ha i i0 c; omega)
        have e1 : plF (ML ++ [(t, s, L)]) i = plF ML i := by unfold plF; rw [take_lo i0 (by omega)]
        have e2 : bfF (ML ++ [(t, s, L)]) i = bfF ML i := funext fun j => by unfold bfF; rw [take_lo i0 (by omega), mI_lo i0 c]
        rw [mI_lo i0 c, upA_ne (by omega), e1, e2]
        exact hm
      · have ei : i = ML.length := by
          rw [show ((ML ++ [(t, s, L)]).length : Int) = ML.length + 1 by rw [List.length_append]; rfl] at i1
          omega
        subst ei
        have e1 : plF (ML ++ [(t, s, L)]) ML.length = (encAll 0 (-1) (fun _ => 0) ML).length := by unfold plF; rw [take_at]
        have e2 : bfF (ML ++ [(t, s, L)]) ML.length = fun j => sall (fun _ => 0) ML (pwL L j) := funext fun j => by unfold bfF; rw [take_at, mI_at]
        rw [mI_at, upA_eq, e1, e2]
        exact hMo2
end RM9
set_option maxRecDepth 100000 in
set_option maxHeartbeats 400000 in
theorem c_X3_init {G : GG} {l : Launch} {w : Wd} {r : Nat} {tp wr rw : Nat} (h1 : w r = some (6, .inr (6, [.null, .null, .null, .int (iI 0), .int (iI 0)]))) : MG G l yX3_init wsX3_init 2 80 (0) (0) [.ref r, .ref tp, .ref wr, .ref rw] w (pV (fun (w' : Wd) => w' r = some (6, .inr (6, [.ref tp, .ref wr, .ref rw, .int (iI 0), .int (iI (-1))])) ∧ Fr (fun t => t = 6) w w')) := by
  refine MG.of (cc := cX3_init) (nL := 4) (ret := none) (ll := [some (.ref r), some (.ref tp), some (.ref wr), some (.ref rw)]) (by decide) rfl (Nat.le_of_ble_eq_true rfl) rfl ?_
  intro p e s m args below meth c C
  have hts := C.2.2.2.2.1
  have p9 : PutX G s m args meth 9 6 0 (.object "TraceBook$Bytes") := putX_of C 6 0 tyX3 tyX3_ok nmX3 (T := TX3) (N := 5) (Cn := RX3) (ref := "TraceBook$Reader") rfl (by decide) (fun _ h => List.mem_cons_of_mem _ (List.mem_append_right _ (h))) (List.mem_of_getElem? (i := 4) rfl) (fun _ h => h) rfl rfl rfl (by decide +kernel)
  have p15 : PutX G s m args meth 15 6 1 (.object "TraceBook$Wires") := putX_of C 6 1 tyX3 tyX3_ok nmX3 (T := TX3) (N := 5) (Cn := RX3) (ref := "TraceBook$Reader") rfl (by decide) (fun _ h => List.mem_cons_of_mem _ (List.mem_append_right _ (h))) (List.mem_of_getElem? (i := 5) rfl) (fun _ h => h) rfl rfl rfl (by decide +kernel)
  have p19 : PutX G s m args meth 19 6 2 (.object "TraceBook$Row") := putX_of C 6 2 tyX3 tyX3_ok nmX3 (T := TX3) (N := 5) (Cn := RX3) (ref := "TraceBook$Reader") rfl (by decide) (fun _ h => List.mem_cons_of_mem _ (List.mem_append_right _ (h))) (List.mem_of_getElem? (i := 6) rfl) (fun _ h => h) rfl rfl rfl (by decide +kernel)
  have p23 : PutF G s m args 23 6 3 (.int) := putF_of C 6 3 tyX3 tyX3_ok nmX3 (T := TX3) (N := 5) (Cn := RX3) (ref := "TraceBook$Reader") rfl (by decide) (fun _ h => List.mem_cons_of_mem _ (List.mem_append_right _ (h))) (List.mem_of_getElem? (i := 7) rfl) (fun _ h => h) rfl (by decide +kernel)
  have p27 : PutF G s m args 27 6 4 (.int) := putF_of C 6 4 tyX3 tyX3_ok nmX3 (T := TX3) (N := 5) (Cn := RX3) (ref := "TraceBook$Reader") rfl (by decide) (fun _ h => List.mem_cons_of_mem _ (List.mem_append_right _ (h))) (List.mem_of_getElem? (i := 8) rfl) (fun _ h => h) rfl (by decide +kernel)
  refine poV (P := fun PO => V G p l e _ s m args below meth c (MQW G below args s _ _ (pV PO)) w 0 0 0 _ []) (fun PO hPO => ?_)
  obtain ⟨w0, hw0⟩ : ∃ z, z = w := ⟨_, rfl⟩
  rw [← hw0] at hPO
  have hF : Fr (fun t => t = 6) w0 w := by rw [hw0]; exact Fr.rf
  refine v_aload_n C dX3_init_0 rfl ?_
  refine v_objInit C (List.mem_of_getElem? (i := 1) rfl) (List.mem_of_getElem? (i := 2) rfl) (List.mem_of_getElem? (i := 3) rfl) (Nat.le_of_ble_eq_true rfl) (Nat.le_of_ble_eq_true rfl) dX3_init_1 ?_
  refine v_aload_n C dX3_init_4 rfl ?_
  refine v_aload_n C dX3_init_5 rfl ?_
  refine v_putX C p9 h1 rfl rfl (Nat.le_of_ble_eq_true rfl) dX3_init_6 ?_
  refine v_upd h1 (fun w h1 hF9 hE9 => ?_)
  have hF := hF.tr (hF9.mono (fun t h9 => by have h8 : t = 6 := h9; show t = 6; omega))
  refine v_aload_n C dX3_init_9 rfl ?_
  refine v_aload_n C dX3_init_10 rfl ?_
  refine v_putX C p15 h1 rfl rfl (Nat.le_of_ble_eq_true rfl) dX3_init_11 ?_
  refine v_upd h1 (fun w h1 hF9 hE9 => ?_)
  have hF := hF.tr (hF9.mono (fun t h9 => by have h8 : t = 6 := h9; show t = 6; omega))
  refine v_aload_n C dX3_init_14 rfl ?_
  refine v_aload_n C dX3_init_15 rfl ?_
  refine v_putX C p19 h1 rfl rfl (Nat.le_of_ble_eq_true rfl) dX3_init_16 ?_
  refine v_upd h1 (fun w h1 hF9 hE9 => ?_)
  have hF := hF.tr (hF9.mono (fun t h9 => by have h8 : t = 6 := h9; show t = 6; omega))
  refine v_aload_n C dX3_init_19 rfl ?_
  refine v_iconst C dX3_init_20 ?_
  refine v_putf C p23 h1 rfl rfl (Nat.le_of_ble_eq_true rfl) dX3_init_21 ?_
  refine v_upd h1 (fun w h1 hF9 hE9 => ?_)
  have hF := hF.tr (hF9.mono (fun t h9 => by have h8 : t = 6 := h9; show t = 6; omega))
  refine v_aload_n C dX3_init_24 rfl ?_
  refine v_iconst C dX3_init_25 ?_
  refine v_putf C p27 h1 rfl rfl (Nat.le_of_ble_eq_true rfl) dX3_init_26 ?_
  refine v_upd h1 (fun w h1 hF9 hE9 => ?_)
  have hF := hF.tr (hF9.mono (fun t h9 => by have h8 : t = 6 := h9; show t = 6; omega))
  exact v_vret C rfl dX3_init_29 (by omega) (by omega) (hPO _ ⟨h1, hF⟩)
theorem c_readMo {G : GG} {l : Launch} {w : Wd} {r : Nat} {tp wr rw : Nat} {tz cap pl fa : Int} {T : Int → Int} {TR : Nat} {cap9 vcap nw cst : Int} {A1 : Int → Int} {ML : ML3} {M : Int → Nat} (h1 : w r = some (6, .inr (6, [.ref tp, .ref wr, .ref rw, .int (iI pl), .int (iI fa)]))) (hB : BytesAt G w 4 tp tz cap T) (hW : WiresAt G w wr nw A1) (hA1 : ∀ i, 0 ≤ i → i < nw → 1 ≤ A1 i ∧ A1 i ≤ 64) (hnw : 0 ≤ nw ∧ nw ≤ 200) (hRw : RowM G w TR rw cap9 vcap ML M) (hTR : 6 < TR ∧ TR < 90) (hok : okL nw A1 0 (-1) (fun _ => 0) ML) (hpl : 0 ≤ pl ∧ pl ≤ tz ∧ tz ≤ 2048) (hf : fa = -1) (hcst : 0 ≤ cst ∧ ((pmo T tz nw A1 pl (lasT 0 ML) (lasS (-1) ML) (sall (fun _ => 0) ML)).1 = -1 → (pmo T tz nw A1 pl (lasT 0 ML) (lasS (-1) ML) (sall (fun _ => 0) ML)).2.1 ≤ pl + cst) ∧ ((pmo T tz nw A1 pl (lasT 0 ML) (lasS (-1) ML) (sall (fun _ => 0) ML)).1 ≠ -1 → tz ≤ pl + cst)) : MG G l yX3_readMoment wsX3_readMoment 9 360 ((4 + cst).toNat) ((1607 + 800 * cst).toNat) [.ref r] w (pR (fun (x : Option Nat) (w' : Wd) => ∃ pl2, w' r = some (6, .inr (6, [.ref tp, .ref wr, .ref rw, .int (iI pl2), .int (iI (pmo T tz nw A1 pl (lasT 0 ML) (lasS (-1) ML) (sall (fun _ => 0) ML)).1)])) ∧ (0 ≤ pl2 ∧ pl2 ≤ tz) ∧ FrO (fun t => t = 6 ∨ t = 0) w w' ∧ R32 (pmo T tz nw A1 pl (lasT 0 ML) (lasS (-1) ML) (sall (fun _ => 0) ML)).1 ∧ (((pmo T tz nw A1 pl (lasT 0 ML) (lasS (-1) ML) (sall (fun _ => 0) ML)).1 ≠ -1 ∧ x = none) ∨ ((pmo T tz nw A1 pl (lasT 0 ML) (lasS (-1) ML) (sall (fun _ => 0) ML)).1 = -1 ∧ pl2 = (pmo T tz nw A1 pl (lasT 0 ML) (lasS (-1) ML) (sall (fun _ => 0) ML)).2.1 ∧ ∃ a9, x = some a9 ∧ (∀ t e, w a9 = some (t, e) → t = 6 ∨ t = 0) ∧ MomAt G w' a9 (pmo T tz nw A1 pl (lasT 0 ML) (lasS (-1) ML) (sall (fun _ => 0) ML)).2.2.1 (pmo T tz nw A1 pl (lasT 0 ML) (lasS (-1) ML) (sall (fun _ => 0) ML)).2.2.2.1 (-1) (pmo T tz nw A1 pl (lasT 0 ML) (lasS (-1) ML) (sall (fun _ => 0) ML)).2.2.2.2.length (pwL (pmo T tz nw A1 pl (lasT 0 ML) (lasS (-1) ML) (sall (fun _ => 0) ML)).2.2.2.2) (vlL (pmo T tz nw A1 pl (lasT 0 ML) (lasS (-1) ML) (sall (fun _ => 0) ML)).2.2.2.2) (fun j => sall (fun _ => 0) ML (pwL (pmo T tz nw A1 pl (lasT 0 ML) (lasS (-1) ML) (sall (fun _ => 0) ML)).2.2.2.2 j)) ∧ Srt (pmo T tz nw A1 pl (lasT 0 ML) (lasS (-1) ML) (sall (fun _ => 0) ML)).2.2.2.2.length (pwL (pmo T tz nw A1 pl (lasT 0 ML) (lasS (-1) ML) (sall (fun _ => 0) ML)).2.2.2.2) ∧ ∀ j : Int, 0 ≤ j → j < ((pmo T tz nw A1 pl (lasT 0 ML) (lasS (-1) ML) (sall (fun _ => 0) ML)).2.2.2.2.length : Int) → 0 ≤ vlL (pmo T tz nw A1 pl (lasT 0 ML) (lasS (-1) ML) (sall (fun _ => 0) ML)).2.2.2.2 j ∧ vlL (pmo T tz nw A1 pl (lasT 0 ML) (lasS (-1) ML) (sall (fun _ => 0) ML)).2.2.2.2 j ≤ 8)))) := by
  have hlas := okL_las hok ⟨by omega, by omega, by omega, by omega⟩
  have hlast := hRw.last
  obtain ⟨bt, ml, vk, b, vf, h2, -, h3, -⟩ := hRw
  have e0 : (ML.length : Int) = 0 → lasT 0 ML = 0 ∧ lasS (-1) ML = -1 := fun q => by
    have : ML = [] := List.length_eq_zero_iff.mp (by omega)
    subst this
    exact ⟨rfl, rfl⟩
  have h := c_X3_readMoment (l := l) (lt9 := lasT 0 ML) (ls9 := lasS (-1) ML) (cst := cst) h1 hB hW hA1 hnw h2 hTR hlast (by
    by_cases q : (ML.length : Int) = 0
    · rw [if_pos q]; exact (e0 q).1
    · rw [if_neg q]) (by
    by_cases q : (ML.length : Int) = 0
    · rw [if_pos q]; exact (e0 q).2
    · rw [if_neg q]) hlas hpl hf (by rw [h3]; exact hcst)
  rw [h3] at h
  exact h
set_option maxRecDepth 100000 in
set_option maxHeartbeats 400000 in
theorem c_X3_readRow {G : GG} {l : Launch} {w : Wd} {r : Nat} {tp wr rw : Nat} {tz cap pl fa : Int} {T : Int → Int} {TR : Nat} {capR capF vcR nw : Int} {A1 : Int → Int} {M0 : Int → Nat} (h1 : w r = some (6, .inr (6, [.ref tp, .ref wr, .ref rw, .int (iI pl), .int (iI fa)]))) (hB : BytesAt G w 4 tp tz cap T) (hW : WiresAt G w wr nw A1) (hA1 : ∀ i, 0 ≤ i → i < nw → 1 ≤ A1 i ∧ A1 i ≤ 64) (hnw : 0 ≤ nw ∧ nw ≤ 200) (hRw : RowM G w TR rw capR vcR [] M0) (hTR : 6 < TR ∧ TR < 90) (htz : 0 ≤ tz ∧ tz ≤ 2048) (hpl : pl = 0) (hf : fa = -1) (hcF : Cap capR ((encAll 0 (-1) (fun _ => 0) (pro T tz nw A1 0 0 (-1) (fun _ => 0)).2).length : Int) capF) (hcF2 : capF ≤ 1000000) : MG G l yX3_readRow wsX3_readRow 11 420 ((3 * tz + 8 + (capF - capR) + (gva vcR (pro T tz nw A1 0 0 (-1) (fun _ => 0)).2 - vcR)).toNat) ((1600 * tz + 4000 + 2 * (capF - capR) + 2 * (gva vcR (pro T tz nw A1 0 0 (-1) (fun _ => 0)).2 - vcR)).toNat) [.ref r] w (pI (fun (x : Int) (w' : Wd) => x = (pro T tz nw A1 0 0 (-1) (fun _ => 0)).1 ∧ ∃ M2, RowM G w' TR rw capF (gva vcR (pro T tz nw A1 0 0 (-1) (fun _ => 0)).2) (pro T tz nw A1 0 0 (-1) (fun _ => 0)).2 M2 ∧ okL nw A1 0 (-1) (fun _ => 0) (pro T tz nw A1 0 0 (-1) (fun _ => 0)).2 ∧ 2 * ((pro T tz nw A1 0 0 (-1) (fun _ => 0)).2.length : Int) + 2 * numC (pro T tz nw A1 0 0 (-1) (fun _ => 0)).2 ≤ tz ∧ FrO (fun t => t = 6 ∨ t = 0 ∨ (TR ≤ t ∧ t ≤ TR + 5)) w w')) := by
  refine MG.of (cc := cX3_readRow) (nL := 3) (ret := (some .int)) (ll := [some (.ref r), none, none]) (by decide) rfl (Nat.le_of_ble_eq_true rfl) rfl ?_
  intro p e s m args below meth c C
  have hts := C.2.2.2.2.1
  have g9 : GetF G s m args 9 6 0 := getF_of C 6 0 (T := TX3) (N := 5) (Cn := RX3) (ref := "TraceBook$Reader") rfl (by decide) (fun _ h => List.mem_cons_of_mem _ (List.mem_append_left _ (List.mem_append_left _ (List.mem_append_left _ (List.mem_append_left _ (List.mem_append_left _ (List.mem_append_left _ (List.mem_append_right _ (h))))))))) (List.mem_of_getElem? (i := 1) rfl) (fun _ h => h)
  have g30 : GetN G s m args 30 3 1 := getN_of C 3 1 (T := TX0) (N := 2) (Cn := RX0) (ref := "TraceBook$Bytes") rfl (by decide) (fun _ h => List.mem_cons_of_mem _ (List.mem_append_left _ (List.mem_append_left _ (List.mem_append_left _ (List.mem_append_left _ (List.mem_append_left _ (List.mem_append_right _ (h)))))))) (List.mem_of_getElem? (i := 14) rfl) (fun _ h => h)
  have g27 : GetF G s m args 27 6 4 := getF_of C 6 4 (T := TX3) (N := 5) (Cn := RX3) (ref := "TraceBook$Reader") rfl (by decide) (fun _ h => List.mem_cons_of_mem _ (List.mem_append_left _ (List.mem_append_left _ (List.mem_append_left _ (List.mem_append_left _ (List.mem_append_left _ (List.mem_append_left _ (List.mem_append_right _ (h))))))))) (List.mem_of_getElem? (i := 3) rfl) (fun _ h => h)
  have g23 : GetF G s m args 23 6 3 := getF_of C 6 3 (T := TX3) (N := 5) (Cn := RX3) (ref := "TraceBook$Reader") rfl (by decide) (fun _ h => List.mem_cons_of_mem _ (List.mem_append_left _ (List.mem_append_left _ (List.mem_append_left _ (List.mem_append_left _ (List.mem_append_left _ (List.mem_append_left _ (List.mem_append_right _ (h))))))))) (List.mem_of_getElem? (i := 2) rfl) (fun _ h => h)
  have g19 : GetF G s m args 19 6 2 := getF_of C 6 2 (T := TX3) (N := 5) (Cn := RX3) (ref := "TraceBook$Reader") rfl (by decide) (fun _ h => List.mem_cons_of_mem _ (List.mem_append_left _ (List.mem_append_left _ (List.mem_append_left _ (List.mem_append_left _ (List.mem_append_left _ (List.mem_append_left _ (List.mem_append_right _ (h))))))))) (List.mem_of_getElem? (i := 4) rfl) (fun _ h => h)
  refine poI (P := fun PO => V G p l e _ s m args below meth c (MQW G below args s _ _ (pI PO)) w 0 0 0 _ []) (fun PO hPO => ?_)
  subst hpl
  subst hf
  have hcg0 := hRw.cap
  have hz0 : 0 ≤ numC ([] : ML3) := Int.le_refl _
  obtain ⟨PP, hPP⟩ : ∃ z, z = (pro T tz nw A1 0 0 (-1) (fun _ => 0)) := ⟨_, rfl⟩
  have hgP : gva vcR (pro T tz nw A1 0 0 (-1) (fun _ => 0)).2 = gva vcR PP.2 := by rw [hPP]
  rw [← hPP] at hPO hcF
  obtain ⟨w0, hw0⟩ : ∃ z, z = w := ⟨_, rfl⟩
  rw [← hw0] at hPO
  have hFO0 : w0 = w := hw0
  refine v_iconst C dX3_readRow_0 ?_
  refine v_istore_n C dX3_readRow_1 bsl_3_1 (by decide) rfl ?_
  have L2 : ∀ (N : Nat) (w : Wd) (k9 pl9 fa9 cap9 vc9 : Int) (kx zx : Nat) (ML : ML3) (M9 : Int → Nat), (w r = some (6, .inr (6, [.ref tp, .ref wr, .ref rw, .int (iI pl9), .int (iI fa9)]))) → (BytesAt G w 4 tp tz cap T) → (WiresAt G w wr nw A1) → (RowM G w TR rw cap9 vc9 ML M9) → (FrO (fun t => t = 6 ∨ t = 0 ∨ (TR ≤ t ∧ t ≤ TR + 5)) w0 w) → (okL nw A1 0 (-1) (fun _ => 0) ML) → (Cap capR ((encAll 0 (-1) (fun _ => 0) ML).length : Int) cap9 ∧ vc9 = gva vcR ML) → (R32 fa9) → (0 ≤ k9 ∧ k9 ≤ tz) → (0 ≤ pl9 ∧ pl9 ≤ tz) → (2 * (ML.length : Int) + 2 * numC ML ≤ tz) → ((fa9 = -1 ∧ PP.1 = (pro T tz nw A1 pl9 (lasT 0 ML) (lasS (-1) ML) (sall (fun _ => 0) ML)).1 ∧ PP.2 = ML ++ (pro T tz nw A1 pl9 (lasT 0 ML) (lasS (-1) ML) (sall (fun _ => 0) ML)).2 ∧ 2 * (ML.length : Int) + 2 * numC ML ≤ pl9 ∧ 4 * k9 ≤ pl9 ∧ (kx : Int) ≤ 3 * pl9 + (cap9 - capR) + (vc9 - vcR) ∧ (zx : Int) ≤ 1600 * pl9 + 2 * (cap9 - capR) + 2 * (vc9 - vcR)) ∨ (fa9 ≠ -1 ∧ PP.1 = fa9 ∧ PP.2 = ML ∧ (kx : Int) ≤ 3 * tz + 8 + (cap9 - capR) + (vc9 - vcR) ∧ (zx : Int) ≤ 1600 * tz + 4000 + 2 * (cap9 - capR) + 2 * (vc9 - vcR))) → (tz - k9).toNat < N → V G p l e { frames := 11, cells := (3 * tz + 8 + (capF - capR) + (gva vcR (pro T tz nw A1 0 0 (-1) (fun _ => 0)).2 - vcR)).toNat, slots := (1600 * tz + 4000 + 2 * (capF - capR) + 2 * (gva vcR (pro T tz nw A1 0 0 (-1) (fun _ => 0)).2 - vcR)).toNat, locals := 420 } s m args below meth c (MQW G below args s ((3 * tz + 8 + (capF - capR) + (gva vcR (pro T tz nw A1 0 0 (-1) (fun _ => 0)).2 - vcR)).toNat) ((1600 * tz + 4000 + 2 * (capF - capR) + 2 * (gva vcR (pro T tz nw A1 0 0 (-1) (fun _ => 0)).2 - vcR)).toNat) (pI PO)) w (kx) (zx) 2 [some (.ref r), some (.int (iI k9)), none] [] := by
    intro N
    induction N with
    | zero => intro w k9 pl9 fa9 cap9 vc9 kx zx ML M9 h1 hB hW hRw hFO hok hcp hfa9 hk9 hpl9 hcn hI hm; exact absurd hm (Nat.not_lt_zero _)
    | succ N ih =>
      intro w k9 pl9 fa9 cap9 vc9 kx zx ML M9 h1 hB hW hRw hFO hok hcp hfa9 hk9 hpl9 hcn hI hm
      refine v_iload_n C dX3_readRow_2 rfl ?_
      refine v_aload_n C dX3_readRow_3 rfl ?_
      refine v_getf C g9 h1 rfl dX3_readRow_4 ?_
      refine v_getN C g30 hB.lenF.choose_spec rfl dX3_readRow_7 ?_
      refine v_icmp_ge C (⟨by omega, by omega⟩) (⟨by omega, by omega⟩) (tgt := 59) dX3_readRow_10 (by decide) (fun c_10 => ?_) (fun c_10 => ?_)
      · have hP : PP.1 = fa9 ∧ PP.2 = ML := by
          rcases hI with ⟨i1, i2, i3, i4, i5, -⟩ | ⟨i1, i2, i3, -⟩
          · rw [pro_0 (by omega)] at i2 i3; rw [List.append_nil] at i3; exact ⟨by rw [i2, i1], i3⟩
          · exact ⟨i2, i3⟩
        obtain ⟨hP1, hP2⟩ := hP
        have hcg := hRw.cap
        have hfx : capF = cap9 := by rw [hP2] at hcF; exact hcF.uniq hcp.1
        have hgx : gva vcR PP.2 = vc9 := by rw [hP2, hcp.2]
        have hkz : (kx : Int) ≤ 3 * tz + 8 + (capF - capR) + (gva vcR PP.2 - vcR) ∧ (zx : Int) ≤ 1600 * tz + 4000 + 2 * (capF - capR) + 2 * (gva vcR PP.2 - vcR) := by
          rw [hfx, hgx]
          rcases hI with ⟨-, -, -, -, -, i6, i7⟩ | ⟨-, -, -, i6, i7⟩ <;> exact ⟨by omega, by omega⟩
        refine v_aload_n C dX3_readRow_59 rfl ?_
        refine v_getf C g27 h1 rfl dX3_readRow_60 ?_
        exact v_iret C rfl dX3_readRow_63 (by omega) (by omega) (hPO _ _ ⟨by rw [hP1], M9, by rw [hP2, hfx, ← hcp.2]; exact hRw, by rw [hP2]; exact hok, by rw [hP2]; exact hcn, hFO⟩)
      · refine v_aload_n C dX3_readRow_13 rfl ?_
        refine v_getf C g23 h1 rfl dX3_readRow_14 ?_
        refine v_aload_n C dX3_readRow_17 rfl ?_
        refine v_getf C g9 h1 rfl dX3_readRow_18 ?_
        refine v_getN C g30 hB.lenF.choose_spec rfl dX3_readRow_21 ?_
        refine v_icmp_ge C (⟨by omega, by omega⟩) (⟨by omega, by omega⟩) (tgt := 59) dX3_readRow_24 (by decide) (fun c_24 => ?_) (fun c_24 => ?_)
        · have hP : PP.1 = fa9 ∧ PP.2 = ML := by
            rcases hI with ⟨i1, i2, i3, i4, i5, -⟩ | ⟨i1, i2, i3, -⟩
            · rw [pro_0 (by omega)] at i2 i3; rw [List.append_nil] at i3; exact ⟨by rw [i2, i1], i3⟩
            · exact ⟨i2, i3⟩
          obtain ⟨hP1, hP2⟩ := hP
          have hcg := hRw.cap
          have hfx : capF = cap9 := by rw [hP2] at hcF; exact hcF.uniq hcp.1
          have hgx : gva vcR PP.2 = vc9 := by rw [hP2, hcp.2]
          have hkz : (kx : Int) ≤ 3 * tz + 8 + (capF - capR) + (gva vcR PP.2 - vcR) ∧ (zx : Int) ≤ 1600 * tz + 4000 + 2 * (capF - capR) + 2 * (gva vcR PP.2 - vcR) := by
            rw [hfx, hgx]
            rcases hI with ⟨-, -, -, -, -, i6, i7⟩ | ⟨-, -, -, i6, i7⟩ <;> exact ⟨by omega, by omega⟩
          refine v_aload_n C dX3_readRow_59 rfl ?_
          refine v_getf C g27 h1 rfl dX3_readRow_60 ?_
          exact v_iret C rfl dX3_readRow_63 (by omega) (by omega) (hPO _ _ ⟨by rw [hP1], M9, by rw [hP2, hfx, ← hcp.2]; exact hRw, by rw [hP2]; exact hok, by rw [hP2]; exact hcn, hFO⟩)
        · refine v_aload_n C dX3_readRow_27 rfl ?_
          refine v_getf C g27 h1 rfl dX3_readRow_28 ?_
          refine v_iconst C dX3_readRow_31 ?_
          refine v_icmp_ne C (⟨by omega, by omega⟩) (⟨by omega, by omega⟩) (tgt := 59) dX3_readRow_32 (by decide) (fun c_32 => ?_) (fun c_32 => ?_)
          · have hP : PP.1 = fa9 ∧ PP.2 = ML := by
              rcases hI with ⟨i1, i2, i3, i4, i5, -⟩ | ⟨i1, i2, i3, -⟩
              · exact absurd i1 c_32
              · exact ⟨i2, i3⟩
            obtain ⟨hP1, hP2⟩ := hP
            have hcg := hRw.cap
            have hfx : capF = cap9 := by rw [hP2] at hcF; exact hcF.uniq hcp.1
            have hgx : gva vcR PP.2 = vc9 := by rw [hP2, hcp.2]
            have hkz : (kx : Int) ≤ 3 * tz + 8 + (capF - capR) + (gva vcR PP.2 - vcR) ∧ (zx : Int) ≤ 1600 * tz + 4000 + 2 * (capF - capR) + 2 * (gva vcR PP.2 - vcR) := by
              rw [hfx, hgx]
              rcases hI with ⟨-, -, -, -, -, i6, i7⟩ | ⟨-, -, -, i6, i7⟩ <;> exact ⟨by omega, by omega⟩
            refine v_aload_n C dX3_readRow_59 rfl ?_
            refine v_getf C g27 h1 rfl dX3_readRow_60 ?_
            exact v_iret C rfl dX3_readRow_63 (by omega) (by omega) (hPO _ _ ⟨by rw [hP1], M9, by rw [hP2, hfx, ← hcp.2]; exact hRw, by rw [hP2]; exact hok, by rw [hP2]; exact hcn, hFO⟩)
          · obtain ⟨i1, i2, i3, i4, i5, i6, i7⟩ := hI.resolve_right (fun g => g.1 c_32)
            have hlas := okL_las hok ⟨by omega, by omega, by omega, by omega⟩
            have hcg := hRw.cap
            have hgg := hcp.1.ge (by omega)
            have hgg2 := gva_ge (ML := ML) (c := vcR) (by omega)
            rw [← hcp.2] at hgg2
            obtain ⟨RP, hRP⟩ : ∃ z, z = pmo T tz nw A1 pl9 (lasT 0 ML) (lasS (-1) ML) (sall (fun _ => 0) ML) := ⟨_, rfl⟩
            have hfl0 : gva vcR ML ≤ gva vcR PP.2 := gva_pre i3 (by omega)
            rw [← hcp.2] at hfl0
            have hfl1 : cap9 ≤ capF := hcp.1.mono hcF (by have := encAll_pre (lt := 0) (ls := -1) (S := fun _ => 0) i3; omega)
            obtain ⟨cst, hc0, hc1, hc2⟩ : ∃ c : Int, 0 ≤ c ∧ (RP.1 = -1 → RP.2.1 = pl9 + c ∧ 4 ≤ c) ∧ (RP.1 ≠ -1 → tz = pl9 + c) := by
              by_cases g : RP.1 = -1
              · have hm9 := pmo_ok (T := T) (N := tz) hA1 (a := pl9) (t := lasT 0 ML) (s := lasS (-1) ML) (S := sall (fun _ => 0) ML) hpl9.1 hpl9.2 ⟨hlas.1, hlas.2.1⟩ hlas.2.2 (by rw [← hRP]; exact g)
                rw [← hRP] at hm9
                have := List.length_pos_iff.mpr hm9.2.2.2.2.2.2.2.1
                exact ⟨RP.2.1 - pl9, by omega, fun _ => ⟨by omega, by omega⟩, fun q => absurd g q⟩
              · exact ⟨tz - pl9, by omega, fun q => absurd q g, fun _ => by omega⟩
            have hna0 := hRw
            have hFO0 := hFO
            have hcs9 : cst ≤ tz - pl9 := by
              by_cases g : RP.1 = -1
              · have hm9 := pmo_ok (T := T) (N := tz) hA1 (a := pl9) (t := lasT 0 ML) (s := lasS (-1) ML) (S := sall (fun _ => 0) ML) hpl9.1 hpl9.2 ⟨hlas.1, hlas.2.1⟩ hlas.2.2 (by rw [← hRP]; exact g)
                rw [← hRP] at hm9
                have := hc1 g; omega
              · have := hc2 g; omega
            have J1039 : ∀ (w : Wd) (a9 : Nat) (pl3 : Int), (w r = some (6, .inr (6, [.ref tp, .ref wr, .ref rw, .int (iI pl3), .int (iI RP.1)]))) → (BytesAt G w 4 tp tz cap T) → (WiresAt G w wr nw A1) → (RowM G w TR rw cap9 vc9 ML M9) → (FrO (fun t => t = 6 ∨ t = 0 ∨ (TR ≤ t ∧ t ≤ TR + 5)) w0 w) → (0 ≤ pl3 ∧ pl3 ≤ tz) → (RP.1 = -1 ∧ pl3 = RP.2.1) → (MomAt G w a9 RP.2.2.1 RP.2.2.2.1 (-1) RP.2.2.2.2.length (pwL RP.2.2.2.2) (vlL RP.2.2.2.2) (fun j => sall (fun _ => 0) ML (pwL RP.2.2.2.2 j))) → (∀ i : Int, 0 ≤ i → i < ML.length → M9 i ≠ a9) → (∀ vs, w0 a9 = some (100 + 4 * a9, .inr (5, vs)) → False) → V G p l e { frames := 11, cells := (3 * tz + 8 + (capF - capR) + (gva vcR (pro T tz nw A1 0 0 (-1) (fun _ => 0)).2 - vcR)).toNat, slots := (1600 * tz + 4000 + 2 * (capF - capR) + 2 * (gva vcR (pro T tz nw A1 0 0 (-1) (fun _ => 0)).2 - vcR)).toNat, locals := 420 } s m args below meth c (MQW G below args s ((3 * tz + 8 + (capF - capR) + (gva vcR (pro T tz nw A1 0 0 (-1) (fun _ => 0)).2 - vcR)).toNat) ((1600 * tz + 4000 + 2 * (capF - capR) + 2 * (gva vcR (pro T tz nw A1 0 0 (-1) (fun _ => 0)).2 - vcR)).toNat) (pI PO)) w (kx + (4 + cst).toNat) (zx + (1607 + 800 * cst).toNat) 39 [some (.ref r), some (.int (iI k9)), none] [.ref a9] := by
              intro w a9 pl3 h1 hB hW hRw hFO hpl3 hp3 hMo hna hn0
              have hcx := hc1 hp3.1
              obtain ⟨t3, ht3⟩ : ∃ z, z = RP.2.2.1 := ⟨_, rfl⟩
              obtain ⟨s3, hs3⟩ : ∃ z, z = RP.2.2.2.1 := ⟨_, rfl⟩
              obtain ⟨L3, hL3⟩ : ∃ z, z = RP.2.2.2.2 := ⟨_, rfl⟩
              have hm9 := pmo_ok (T := T) (N := tz) hA1 (a := pl9) (t := lasT 0 ML) (s := lasS (-1) ML) (S := sall (fun _ => 0) ML) hpl9.1 hpl9.2 ⟨hlas.1, hlas.2.1⟩ hlas.2.2 (by rw [← hRP]; exact hp3.1)
              rw [← hRP, ← ht3, ← hs3, ← hL3] at hm9
              rw [← ht3, ← hs3, ← hL3] at hMo
              obtain ⟨m1, m2, m3, m4, m5, m6, m7, m8, m9⟩ := hm9
              have hgo0 := pro_go (T := T) (N := tz) (nw := nw) (A1 := A1) (a := pl9) (t := lasT 0 ML) (s := lasS (-1) ML) (S := sall (fun _ => 0) ML) (by omega) (by rw [← hRP]; exact hp3.1) (by rw [← hRP]; omega) hRP
              rw [← ht3, ← hs3, ← hL3, ← hp3.2] at hgo0
              have hgo := Prod.ext_iff.mp hgo0
              rw [hp3.1] at h1
              have hok2 : okL nw A1 0 (-1) (fun _ => 0) (ML ++ [(t3, s3, L3)]) := okL_snoc.mpr ⟨hok, m3, m4, m5, m6, m7, m8, m9⟩
              have el := encAll_len2 (t := t3) (s := s3) m9
              have hfull : PP.2 = (ML ++ [(t3, s3, L3)]) ++ (pro T tz nw A1 pl3 t3 s3 (sfold (sall (fun _ => 0) ML) L3)).2 := by rw [i3, hgo.2, List.append_assoc]; rfl
              have hle := encAll_pre (lt := 0) (ls := -1) (S := fun _ => 0) hfull
              have hgle := gva_pre (c := vcR) hfull (by omega)
              rw [gva_snoc, ← hcp.2] at hgle
              have hgle : gvc vc9 L3 ≤ gva vcR PP.2 := hgle
              have hgv := gvc_ge (L := L3) (c := vc9) (by omega)
              have hl3 : 1 ≤ (L3.length : Int) := by have := List.length_pos_iff.mpr m8; omega
              obtain ⟨capN, hcN⟩ := Cap.ex (c := cap9) (l := ((encAll 0 (-1) (fun _ => 0) (ML ++ [(t3, s3, L3)])).length : Int)) (by omega)
              have hcN2 := (hcp.1.tr (by omega) hcN (by rw [el]; omega)).mono hcF (by omega)
              have hcN3 := hcN.ge (by omega)
              have hnum := numC_0 ML
              have hfit : ((encAll 0 (-1) (fun _ => 0) (ML ++ [(t3, s3, L3)])).length : Int) ≤ 60000 := by
                have := encAll_len hok2 ⟨hnw.2, by rw [show ((ML ++ [(t3, s3, L3)]).length : Int) = ML.length + 1 by rw [List.length_append]; rfl, numC_snoc]; show 0 + 2 * ((ML.length : Int) + 1) + 2 * (numC ML + (L3.length : Int)) ≤ 2048; omega⟩
                omega
              refine v_astore_n C dX3_readRow_39 bsl_3_2 (by decide) rfl ?_
              refine v_aload_n C dX3_readRow_40 rfl ?_
              refine v_ifnull C dX3_readRow_41 ?_
              refine v_aload_n C dX3_readRow_44 rfl ?_
              refine v_getf C g19 h1 rfl dX3_readRow_45 ?_
              refine v_aload_n C dX3_readRow_48 rfl ?_
              refine v_callVi C (q := (RX4, TX4, 3)) (As := [_]) (rest := []) (c_append (cap2 := capN) hRw ⟨by omega, hTR.2⟩ hok hnw hMo ⟨m3, m4, m5, m6⟩ m7 m9 hna hcN (by omega) hfit (by omega)) (cwV 1 hts gX3_readRow_X4_append rfl rfl rfl (by decide +kernel) ⟨Nat.le_of_ble_eq_true rfl, Nat.le_of_ble_eq_true rfl⟩) (hRw.obj.choose_spec) rfl rfl rfl (Nat.le_of_ble_eq_true rfl) dX3_readRow_49 (by dsimp only; omega) (by dsimp only; omega) (fun x_49 w hp => ?_)
              obtain ⟨hx49, hRw, hF9⟩ := hp
              have hFO := hFO.snoc (a := a9) hF9 (fun t h => by omega) hn0
              have h1 := hF9 _ _ _ (fun h9 => by have h8 : 6 = TR ∨ 6 = TR + 1 ∨ 6 = TR + 2 ∨ 6 = TR + 3 ∨ 6 = TR + 4 ∨ 6 = TR + 5 ∨ 6 = 0 ∨ 6 = 100 + 4 * a9 := h9; omega) h1
              have hB := hB.fr hF9 (fun h9 => by have h8 : 4 = TR ∨ 4 = TR + 1 ∨ 4 = TR + 2 ∨ 4 = TR + 3 ∨ 4 = TR + 4 ∨ 4 = TR + 5 ∨ 4 = 0 ∨ 4 = 100 + 4 * a9 := h9; omega) (fun h9 => by have h8 : 4 + 1 = TR ∨ 4 + 1 = TR + 1 ∨ 4 + 1 = TR + 2 ∨ 4 + 1 = TR + 3 ∨ 4 + 1 = TR + 4 ∨ 4 + 1 = TR + 5 ∨ 4 + 1 = 0 ∨ 4 + 1 = 100 + 4 * a9 := h9; omega)
              have hW := hW.fr hF9 (fun h9 => by have h8 : 2 = TR ∨ 2 = TR + 1 ∨ 2 = TR + 2 ∨ 2 = TR + 3 ∨ 2 = TR + 4 ∨ 2 = TR + 5 ∨ 2 = 0 ∨ 2 = 100 + 4 * a9 := h9; omega) (fun h9 => by have h8 : 3 = TR ∨ 3 = TR + 1 ∨ 3 = TR + 2 ∨ 3 = TR + 3 ∨ 3 = TR + 4 ∨ 3 = TR + 5 ∨ 3 = 0 ∨ 3 = 100 + 4 * a9 := h9; omega)
              refine v_pop C rfl dX3_readRow_52 ?_
              refine v_iinc C dX3_readRow_53 rfl bsl_3_1 (by decide) rfl ?_
              refine v_goto C (tgt := 2) dX3_readRow_56 (by decide) ?_
              refine v_kill 2 bsk_3_2 ?_
              have hcN9 := hcp.1.tr (by omega) hcN (by rw [el]; omega)
              have em : ((ML ++ [(t3, s3, L3)]).length : Int) = ML.length + 1 := by rw [List.length_append]; rfl
              exact ih w (k9 + 1) pl3 (-1) capN (gvc vc9 L3) _ _ (ML ++ [(t3, s3, L3)]) (upA M9 ML.length a9) h1 hB hW hRw hFO hok2 ⟨hcN9, by rw [gva_snoc, ← hcp.2]⟩ ⟨by omega, by omega⟩ ⟨by omega, by omega⟩ ⟨by omega, by omega⟩ (by rw [em, numC_snoc]; show 2 * ((ML.length : Int) + 1) + 2 * (numC ML + (L3.length : Int)) ≤ tz; omega) (Or.inl ⟨rfl, by rw [i2, hgo.1, lasT_snoc, lasS_snoc, sall_snoc], by rw [i3, hgo.2, lasT_snoc, lasS_snoc, sall_snoc, List.append_assoc]; rfl, by rw [em, numC_snoc]; show 2 * ((ML.length : Int) + 1) + 2 * (numC ML + (L3.length : Int)) ≤ pl3; omega, by omega, by omega, by omega⟩) (by omega)
            have J2039 : ∀ (w : Wd) (pl3 : Int), (w r = some (6, .inr (6, [.ref tp, .ref wr, .ref rw, .int (iI pl3), .int (iI RP.1)]))) → (BytesAt G w 4 tp tz cap T) → (WiresAt G w wr nw A1) → (RowM G w TR rw cap9 vc9 ML M9) → (FrO (fun t => t = 6 ∨ t = 0 ∨ (TR ≤ t ∧ t ≤ TR + 5)) w0 w) → (0 ≤ pl3 ∧ pl3 ≤ tz) → (RP.1 ≠ -1) → (R32 RP.1) → V G p l e { frames := 11, cells := (3 * tz + 8 + (capF - capR) + (gva vcR (pro T tz nw A1 0 0 (-1) (fun _ => 0)).2 - vcR)).toNat, slots := (1600 * tz + 4000 + 2 * (capF - capR) + 2 * (gva vcR (pro T tz nw A1 0 0 (-1) (fun _ => 0)).2 - vcR)).toNat, locals := 420 } s m args below meth c (MQW G below args s ((3 * tz + 8 + (capF - capR) + (gva vcR (pro T tz nw A1 0 0 (-1) (fun _ => 0)).2 - vcR)).toNat) ((1600 * tz + 4000 + 2 * (capF - capR) + 2 * (gva vcR (pro T tz nw A1 0 0 (-1) (fun _ => 0)).2 - vcR)).toNat) (pI PO)) w (kx + (4 + cst).toNat) (zx + (1607 + 800 * cst).toNat) 39 [some (.ref r), some (.int (iI k9)), none] [.null] := by
              intro w pl3 h1 hB hW hRw hFO hpl3 hn3 hr3
              have hpf := pro_f2 (T := T) (N := tz) (nw := nw) (A1 := A1) (a := pl9) (t := lasT 0 ML) (s := lasS (-1) ML) (S := sall (fun _ => 0) ML) (by omega) (by rw [← hRP]; exact hn3)
              rw [← hRP] at hpf
              refine v_astore_nN C dX3_readRow_39 bsl_3_2 (by decide) rfl ?_
              refine v_aload_nN C dX3_readRow_40 rfl ?_
              refine v_ifnullN C (tgt := 53) dX3_readRow_41 (by decide) ?_
              refine v_iinc C dX3_readRow_53 rfl bsl_3_1 (by decide) rfl ?_
              refine v_goto C (tgt := 2) dX3_readRow_56 (by decide) ?_
              refine v_kill 2 bsk_3_2 ?_
              exact ih w (k9 + 1) pl3 RP.1 cap9 vc9 _ _ ML M9 h1 hB hW hRw hFO hok hcp hr3 ⟨by omega, by omega⟩ hpl3 hcn (Or.inr ⟨hn3, by rw [i2, hpf], by rw [i3, hpf]; exact List.append_nil _, by omega, by omega⟩) (by omega)
            refine v_aload_n C dX3_readRow_35 rfl ?_
            refine v_callVr C (q := (RX3, TX3, 5)) (As := []) (rest := []) (c_readMo (cst := cst) h1 hB hW hA1 hnw hRw hTR hok ⟨hpl9.1, hpl9.2, htz.2⟩ i1 (by rw [← hRP]; exact ⟨hc0, fun q => by have := hc1 q; omega, fun q => by have := hc2 q; omega⟩)) (cwV 0 hts gX3_readRow_X3_readMoment rfl rfl rfl (by decide +kernel) ⟨Nat.le_of_ble_eq_true rfl, Nat.le_of_ble_eq_true rfl⟩) (h1) rfl rfl rfl (Nat.le_of_ble_eq_true rfl) dX3_readRow_36 (by dsimp only; omega) (by dsimp only; omega) (fun x_36 w hp => ?_)
            rw [← hRP] at hp
            obtain ⟨pl3, h1, hpl3, hFO9, hr3, hcs⟩ := hp
            have hF9 := hFO9.lo
            have hRw := hRw.frO hFO9 (by omega) (fun t a b => by omega) (fun t a => by omega)
            have hB := hB.fr hF9 (fun h9 => by have h8 : (4 = 6 ∨ 4 = 0) ∨ 100 ≤ 4 := h9; omega) (fun h9 => by have h8 : (4 + 1 = 6 ∨ 4 + 1 = 0) ∨ 100 ≤ 4 + 1 := h9; omega)
            have hW := hW.fr hF9 (fun h9 => by have h8 : (2 = 6 ∨ 2 = 0) ∨ 100 ≤ 2 := h9; omega) (fun h9 => by have h8 : (3 = 6 ∨ 3 = 0) ∨ 100 ≤ 3 := h9; omega)
            rcases hcs with ⟨g1, rfl⟩ | ⟨g1, g2, a9, rfl, g3, g4, g5, g6⟩
            · exact J2039 w pl3 h1 hB hW hRw (hFO.tr (hFO9.mono (fun t h => by omega)) (fun a => by omega)) hpl3 g1 hr3
            · exact J1039 w a9 pl3 h1 hB hW hRw (hFO.tr (hFO9.mono (fun t h => by omega)) (fun a => by omega)) hpl3 ⟨g1, g2⟩ g4 (fun i a b q => by
                obtain ⟨vs, e⟩ := hna0.mem a b
                rw [q] at e
                have := g3 _ _ e
                omega) (fun vs e => by
                have e2 := hFO0 _ _ _ (by omega) (fun _ => ⟨vs, by rw [show (100 + 4 * a9 - 100) / 4 = a9 by omega]; exact e⟩) e
                have := g3 _ _ e2
                omega)
  exact L2 _ w 0 0 (-1) capR vcR 0 0 [] M0 h1 hB hW hRw (by rw [hFO0]; exact FrO.rf) trivial ⟨Cap.here (by omega) (by show (0 : Int) ≤ capR; omega), rfl⟩ ⟨by omega, by omega⟩ ⟨by omega, by omega⟩ ⟨by omega, by omega⟩ (by show 2 * (0 : Int) + 2 * 0 ≤ tz; omega) (Or.inl ⟨rfl, by rw [hPP]; rfl, by rw [hPP]; rfl, by show 2 * (0 : Int) + 2 * 0 ≤ 0; omega, by omega, by omega, by omega⟩) (Nat.lt_succ_self _)
