theorem bsj_7_2 {x0 x1 x2 x3 x4 x5 x6 : Option Value} {v : Value} : stJ [x0, x1, x2, x3, x4, x5, x6] 2 v = [x0, x1, some v, none, x4, x5, x6] := rfl
theorem bsk_7_2 {x0 x1 x2 x3 x4 x5 x6 : Option Value} : stK [x0, x1, x2, x3, x4, x5, x6] 2 = [x0, x1, none, x3, x4, x5, x6] := rfl
theorem bsk_7_6 {x0 x1 x2 x3 x4 x5 x6 : Option Value} : stK [x0, x1, x2, x3, x4, x5, x6] 6 = [x0, x1, x2, x3, x4, x5, none] := rfl
theorem bsl_7_4 {x0 x1 x2 x3 x4 x5 x6 : Option Value} {v : Value} : stL [x0, x1, x2, x3, x4, x5, x6] 4 v = [x0, x1, x2, x3, some v, x5, x6] := rfl
theorem bsl_7_5 {x0 x1 x2 x3 x4 x5 x6 : Option Value} {v : Value} : stL [x0, x1, x2, x3, x4, x5, x6] 5 v = [x0, x1, x2, x3, x4, some v, x6] := rfl
theorem bsl_7_6 {x0 x1 x2 x3 x4 x5 x6 : Option Value} {v : Value} : stL [x0, x1, x2, x3, x4, x5, x6] 6 v = [x0, x1, x2, x3, x4, x5, some v] := rfl
theorem MG.imp {G : GG} {l : Launch} {y : MethodName} {ws : List Cond} {F L mc ms : Nat} {av : List Value} {w : Wd} {post post2 : Option Value → Wd → Prop} (h : MG G l y ws F L mc ms av w post) (hi : ∀ v w', post v w' → post2 v w') : MG G l y ws F L mc ms av w post2 := fun p e ha hc hk s m args below hf hfit hP hT => by
  obtain ⟨n, o, h1, h2, h3, ⟨v, w', e1, hp, hR, hK⟩, hL⟩ := h p e ha hc hk s m args below hf hfit hP hT
  exact ⟨n, o, h1, h2, h3, ⟨v, w', e1, hi _ _ hp, hR, hK⟩, hL⟩
/-- a list of changes by functions -/
def pwL (L : List (Int × Int)) (j : Int) : Int := (L[j.toNat]?.getD (0, 0)).1
def vlL (L : List (Int × Int)) (j : Int) : Int := (L[j.toNat]?.getD (0, 0)).2
theorem dropL {L : List (Int × Int)} {i : Int} (h0 : 0 ≤ i) (h : i < L.length) : L.drop i.toNat = (pwL L i, vlL L i) :: L.drop (i + 1).toNat := by
  have hk : i.toNat < L.length := by omega
  rw [List.drop_eq_getElem_cons hk, show (i + 1).toNat = i.toNat + 1 by omega]
  congr 1
  unfold pwL vlL
  rw [List.getElem?_eq_getElem hk]
  rfl
def encL2 : Int → List (Int × Int) → List Int
  | _, [] => []
  | w, q :: l => c7 (q.1 / 64 - w) ++ (c7 (16 * (q.1 % 64) + q.2) ++ encL2 (q.1 / 64) l)
def encM2 (t s lt ls : Int) (L : List (Int × Int)) : List Int := hdrL t s lt ls ++ (c7 L.length ++ encL2 0 L)
section CW9
variable {G : GG} {w w2 : Wd} {S : Nat → Prop}
/-- bytes that are being written: what is there, what is still to come -/
def WS (G : GG) (w : Wd) (T bt : Nat) (b : Int → Int) (len cap : Int) (ENC : List Int) (len1 cap1 : Int) (REM : List Int) : Prop := ∃ b1, BytesAt G w T bt len1 cap1 b1 ∧ putL b1 len1 REM = putL b len ENC ∧ len1 + REM.length = len + ENC.length ∧ Cap cap len1 cap1 ∧ 0 ≤ cap ∧ len ≤ len1
theorem WS.of {T bt : Nat} {b : Int → Int} {len cap : Int} {ENC : List Int} (h : BytesAt G w T bt len cap b) : WS G w T bt b len cap ENC len cap ENC := ⟨b, h, rfl, rfl, .here (by have := h.rg; omega) h.rg.2.1, by have := h.rg; omega, Int.le_refl _⟩
theorem WS.fr {T bt : Nat} {b : Int → Int} {len cap : Int} {ENC : List Int} {len1 cap1 : Int} {REM : List Int} (h : WS G w T bt b len cap ENC len1 cap1 REM) (hF : Fr S w w2) (h0 : ¬ S T) (h1 : ¬ S (T + 1)) : WS G w2 T bt b len cap ENC len1 cap1 REM := by
  obtain ⟨b1, q, q2⟩ := h
  exact ⟨b1, q.fr hF h0 h1, q2⟩
theorem WS.obj {T bt : Nat} {b : Int → Int} {len cap : Int} {ENC : List Int} {len1 cap1 : Int} {REM : List Int} (h : WS G w T bt b len cap ENC len1 cap1 REM) : ∃ fs, w bt = some (T, .inr (3, fs)) := by
  obtain ⟨b1, q, q2⟩ := h
  exact q.obj
theorem WS.next {T bt : Nat} {b : Int → Int} {len cap cap2 : Int} {ENC : List Int} {len1 cap1 V : Int} {REM : List Int} (h : WS G w T bt b len cap ENC len1 cap1 (c7 V ++ REM)) (hc : Cap cap (len + ENC.length) cap2) : ∃ cN, Cap cap1 (len1 + (c7 V).length) cN ∧ cN ≤ cap2 ∧ cap1 ≤ cN ∧ cap ≤ cap1 := by
  obtain ⟨b1, hB, q1, q2, q3, q4, q5⟩ := h
  have hg := hB.rg
  obtain ⟨cN, hcN⟩ := Cap.ex (c := cap1) (l := len1 + (c7 V).length) (by omega)
  have e : (c7 V ++ REM).length = (c7 V).length + REM.length := List.length_append
  rw [e] at q2
  exact ⟨cN, hcN, (q3.tr q4 hcN (by omega)).mono hc (by omega), hcN.ge (by omega), q3.ge q4⟩
theorem WS.le {T bt : Nat} {b : Int → Int} {len cap cap2 : Int} {ENC : List Int} {len1 cap1 : Int} {REM : List Int} (h : WS G w T bt b len cap ENC len1 cap1 REM) (hc : Cap cap (len + ENC.length) cap2) : cap1 ≤ cap2 ∧ cap ≤ cap1 := by
  obtain ⟨b1, hB, q1, q2, q3, q4, q5⟩ := h
  exact ⟨q3.mono hc (by omega), q3.ge q4⟩
theorem WS.done {T bt : Nat} {b : Int → Int} {len cap cap2 : Int} {ENC : List Int} {len1 cap1 : Int} (h : WS G w T bt b len cap ENC len1 cap1 []) (hc : Cap cap (len + ENC.length) cap2) : BytesAt G w T bt (len + ENC.length) cap2 (putL b len ENC) ∧ cap1 = cap2 := by
  obtain ⟨b1, hB, q1, q2, q3, q4, q5⟩ := h
  have e : len1 = len + ENC.length := by simpa using q2
  have e2 : cap1 = cap2 := q3.uniq (by rw [e]; exact hc)
  rw [← e, ← e2, ← q1]
  exact ⟨hB, rfl⟩
theorem c_addW {l : Launch} {T bt : Nat} {b : Int → Int} {len cap : Int} {ENC : List Int} {len1 cap1 V cN : Int} {REM : List Int} (h : WS G w T bt b len cap ENC len1 cap1 (c7 V ++ REM)) (hT : 0 < T) (hV : 0 ≤ V ∧ V < 4611686018427387904) (hcN : Cap cap1 (len1 + (c7 V).length) cN) (hN : cN ≤ 1000000) :
    MG G l yX0_addCount wsX0_addCount 4 160 ((cN - cap1).toNat) ((2 * (cN - cap1)).toNat) [.ref bt, .long (lI V)] w (pV (fun w' => WS G w' T bt b len cap ENC (len1 + (c7 V).length) cN REM ∧ Fr (fun t => t = T ∨ t = T + 1 ∨ t = 0) w w')) := by
  obtain ⟨b1, hB, q1, q2, q3, q4, q5⟩ := h
  refine (c_X0_addCount hB hT hV hcN hN).imp fun v w' hv => ?_
  obtain ⟨hv, hB2, hF⟩ := hv
  have e : (c7 V ++ REM).length = (c7 V).length + REM.length := List.length_append
  rw [e] at q2
  exact ⟨hv, ⟨_, hB2, by rw [← q1, putL_app], by omega, q3.tr q4 hcN (by omega), q4, by omega⟩, hF⟩
end CW9
set_option maxRecDepth 100000 in
set_option maxHeartbeats 400000 in
theorem c_X4_writeMoment {G : GG} {l : Launch} {w : Wd} {r : Nat} {T bt ml vk : Nat} {len cap n vcap : Int} {b vf : Int → Int} {M : Int → Nat} {t9 s9 pl lt ls lt9 ls9 cap2 : Int} {a : Nat} {L : List (Int × Int)} {bf : Int → Int} (hB : RowR G w T r bt ml vk len cap b n M vcap vf) (hM : 0 < n → ∃ q1 q2, w (M (n - 1)) = some (100 + 4 * M (n - 1), .inr (5, [.long (lI lt), .long (lI ls), q1, q2]))) (hMo : MomAt G w a t9 s9 pl L.length (pwL L) (vlL L) bf) (hT : 0 < T ∧ T < 90) (ht : 0 ≤ t9 ∧ t9 < 1152921504606846976 ∧ 0 ≤ s9 ∧ s9 < 1152921504606846976) (hl : 0 ≤ lt9 ∧ lt9 ≤ t9 ∧ -1 ≤ ls9 ∧ ls9 < 1152921504606846976 ∧ (t9 = lt9 → ls9 < s9)) (hlt : lt9 = (if n = 0 then 0 else lt)) (hls : ls9 = (if n = 0 then -1 else ls)) (hS : Srt L.length (pwL L)) (hV : ∀ j : Int, 0 ≤ j → j < (L.length : Int) → 0 ≤ vlL L j ∧ vlL L j ≤ 8) (hc : Cap cap (len + (encM2 t9 s9 lt9 ls9 L).length) cap2) (hc2 : cap2 ≤ 1000000) : MG G l yX4_writeMoment wsX4_writeMoment 6 240 ((cap2 - cap).toNat) ((2 * (cap2 - cap)).toNat) [.ref r, .ref a] w (pV (fun (w' : Wd) => BytesAt G w' (T + 1) bt (len + (encM2 t9 s9 lt9 ls9 L).length) cap2 (putL b len (encM2 t9 s9 lt9 ls9 L)) ∧ Fr (fun t => t = T + 1 ∨ t = T + 1 + 1 ∨ t = 0) w w')) := by
  refine MG.of (cc := cX4_writeMoment) (nL := 7) (ret := none) (ll := [some (.ref r), some (.ref a), none, none, none, none, none]) (by decide) rfl (Nat.le_of_ble_eq_true rfl) rfl ?_
  intro p e s m args below meth c C
  have hts := C.2.2.2.2.1
  have g12 : GetF G s m args 12 7 0 := getF_of C 7 0 (T := TX4) (N := 3) (Cn := RX4) (ref := "TraceBook$Row") rfl (by decide) (fun _ h => List.mem_cons_of_mem _ (List.mem_append_left _ (List.mem_append_left _ (List.mem_append_left _ (List.mem_append_right _ (h)))))) (List.mem_of_getElem? (i := 1) rfl) (fun _ h => h)
  have g93 : GetN G s m args 93 5 2 := getN_of C 5 2 (T := TX2) (N := 4) (Cn := RX2) (ref := "TraceBook$Moment") rfl (by decide) (fun _ h => List.mem_cons_of_mem _ (List.mem_append_left _ (List.mem_append_left _ (List.mem_append_left _ (List.mem_append_left _ (List.mem_append_right _ (h))))))) (List.mem_of_getElem? (i := 23) rfl) (fun _ h => h)
  have g115 : GetN G s m args 115 4 0 := getN_of C 4 0 (T := TX1) (N := 4) (Cn := RX1) (ref := "TraceBook$Change") rfl (by decide) (fun _ h => List.mem_cons_of_mem _ (List.mem_append_left _ (List.mem_append_left _ (List.mem_append_right _ (h))))) (List.mem_of_getElem? (i := 24) rfl) (fun _ h => h)
  have g118 : GetN G s m args 118 4 1 := getN_of C 4 1 (T := TX1) (N := 4) (Cn := RX1) (ref := "TraceBook$Change") rfl (by decide) (fun _ h => List.mem_cons_of_mem _ (List.mem_append_left _ (List.mem_append_left _ (List.mem_append_right _ (h))))) (List.mem_of_getElem? (i := 25) rfl) (fun _ h => h)
  have g121 : GetN G s m args 121 4 2 := getN_of C 4 2 (T := TX1) (N := 4) (Cn := RX1) (ref := "TraceBook$Change") rfl (by decide) (fun _ h => List.mem_cons_of_mem _ (List.mem_append_left _ (List.mem_append_left _ (List.mem_append_right _ (h))))) (List.mem_of_getElem? (i := 26) rfl) (fun _ h => h)
  have g60 : GetN G s m args 60 5 0 := getN_of C 5 0 (T := TX2) (N := 4) (Cn := RX2) (ref := "TraceBook$Moment") rfl (by decide) (fun _ h => List.mem_cons_of_mem _ (List.mem_append_left _ (List.mem_append_left _ (List.mem_append_left _ (List.mem_append_left _ (List.mem_append_right _ (h))))))) (List.mem_of_getElem? (i := 19) rfl) (fun _ h => h)
  have g66 : GetN G s m args 66 5 1 := getN_of C 5 1 (T := TX2) (N := 4) (Cn := RX2) (ref := "TraceBook$Moment") rfl (by decide) (fun _ h => List.mem_cons_of_mem _ (List.mem_append_left _ (List.mem_append_left _ (List.mem_append_left _ (List.mem_append_left _ (List.mem_append_right _ (h))))))) (List.mem_of_getElem? (i := 20) rfl) (fun _ h => h)
  refine poV (P := fun PO => V G p l e _ s m args below meth c (MQW G below args s _ _ (pV PO)) w 0 0 0 _ []) (fun PO hPO => ?_)
  obtain ⟨w0, hw0⟩ : ∃ z, z = w := ⟨_, rfl⟩
  rw [← hw0] at hPO
  have hF : Fr (fun t => t = T + 1 ∨ t = T + 1 + 1 ∨ t = 0) w0 w := by rw [hw0]; exact Fr.rf
  have hLM := hM
  obtain ⟨h1, hBy, hLs, hVa, hvc, hvf⟩ := id hB
  obtain ⟨lr, LL, hm1, hmL, hmC⟩ := hMo
  have hLr := hmL.rg
  have J64 : ∀ (w : Wd) (len1 cap1 : Int), (w r = some (T, .inr (7, [.ref bt, .ref ml, .ref vk]))) → (w a = some (100 + 4 * a, .inr (5, [.long (lI t9), .long (lI s9), .ref lr, .int (iI pl)]))) → (ListAt G w (101 + 4 * a) lr L.length LL) → (ChAt w (103 + 4 * a) L.length LL (pwL L) (vlL L) bf) → (Fr (fun t => t = T + 1 ∨ t = T + 1 + 1 ∨ t = 0) w0 w) → (WS G w (T + 1) bt b len cap (encM2 t9 s9 lt9 ls9 L) len1 cap1 (c7 L.length ++ encL2 0 L)) → (cap ≤ cap1) → V G p l e { frames := 6, cells := (cap2 - cap).toNat, slots := (2 * (cap2 - cap)).toNat, locals := 240 } s m args below meth c (MQW G below args s ((cap2 - cap).toNat) ((2 * (cap2 - cap)).toNat) (pV PO)) w ((cap1 - cap).toNat) ((2 * (cap1 - cap)).toNat) 64 [some (.ref r), some (.ref a), none, none, none, none, none] [] := by
    intro w len1 cap1 h1 hm1 hmL hmC hF hW hcc
    obtain ⟨cN, hcN, hcN2, hcN1, hcN0⟩ := hW.next hc
    refine v_aload_n C dX4_writeMoment_64 rfl ?_
    refine v_getf C g12 h1 rfl dX4_writeMoment_65 ?_
    refine v_aload_n C dX4_writeMoment_68 rfl ?_
    refine v_getN C g93 hm1 rfl dX4_writeMoment_69 ?_
    refine v_callVi C (q := (RJx4a65c, TJx4a65c, 3)) (As := []) (rest := [_]) (c_Jx4a65c_size_8abf5 hmL) (cwV 0 hts gX4_writeMoment_Jx4a65c_size_8abf5 rfl rfl rfl (by decide +kernel) ⟨Nat.le_of_ble_eq_true rfl, Nat.le_of_ble_eq_true rfl⟩) (hmL.obj.choose_spec) rfl rfl rfl (Nat.le_of_ble_eq_true rfl) dX4_writeMoment_72 (by dsimp only; omega) (by dsimp only; omega) (fun x_72 w hp => ?_)
    obtain ⟨hx9, rfl⟩ := hp
    rw [hx9]
    refine v_i2l C (⟨by omega, by omega⟩) dX4_writeMoment_75 ?_
    refine v_callVv C (q := (RX0, TX0, 2)) (As := [_]) (rest := []) (c_addW hW (by omega) ⟨by omega, by omega⟩ hcN (by omega)) (cwV 1 hts gX4_writeMoment_X0_addCount rfl rfl rfl (by decide +kernel) ⟨Nat.le_of_ble_eq_true rfl, Nat.le_of_ble_eq_true rfl⟩) (hW.obj.choose_spec) rfl rfl rfl (Nat.le_of_ble_eq_true rfl) dX4_writeMoment_76 (by dsimp only; omega) (by dsimp only; omega) (fun w hp => ?_)
    obtain ⟨hW, hF9⟩ := hp
    have h1 := hF9 _ _ _ (fun h9 => by have h8 : T = T + 1 ∨ T = T + 1 + 1 ∨ T = 0 := h9; omega) h1
    have hm1 := hF9 _ _ _ (fun h9 => by have h8 : 100 + 4 * a = T + 1 ∨ 100 + 4 * a = T + 1 + 1 ∨ 100 + 4 * a = 0 := h9; omega) hm1
    have hmL := hmL.fr hF9 (fun h9 => by have h8 : 101 + 4 * a = T + 1 ∨ 101 + 4 * a = T + 1 + 1 ∨ 101 + 4 * a = 0 := h9; omega) (fun h9 => by have h8 : 101 + 4 * a + 1 = T + 1 ∨ 101 + 4 * a + 1 = T + 1 + 1 ∨ 101 + 4 * a + 1 = 0 := h9; omega)
    have hmC := hmC.fr hF9 (fun h9 => by have h8 : 103 + 4 * a = T + 1 ∨ 103 + 4 * a = T + 1 + 1 ∨ 103 + 4 * a = 0 := h9; omega)
    have hF := hF.tr (hF9.mono (fun t h9 => by have h8 : t = T + 1 ∨ t = T + 1 + 1 ∨ t = 0 := h9; show t = T + 1 ∨ t = T + 1 + 1 ∨ t = 0; omega))
    refine v_iconst C dX4_writeMoment_79 ?_
    refine v_istore C dX4_writeMoment_80 bsl_7_4 (by decide) rfl ?_
    refine v_iconst C dX4_writeMoment_82 ?_
    refine v_istore C dX4_writeMoment_83 bsl_7_5 (by decide) rfl ?_
    have L85 : ∀ (N : Nat) (w : Wd) (len1 cap1 w9 i9 : Int), (w r = some (T, .inr (7, [.ref bt, .ref ml, .ref vk]))) → (w a = some (100 + 4 * a, .inr (5, [.long (lI t9), .long (lI s9), .ref lr, .int (iI pl)]))) → (ListAt G w (101 + 4 * a) lr L.length LL) → (ChAt w (103 + 4 * a) L.length LL (pwL L) (vlL L) bf) → (Fr (fun t => t = T + 1 ∨ t = T + 1 + 1 ∨ t = 0) w0 w) → (WS G w (T + 1) bt b len cap (encM2 t9 s9 lt9 ls9 L) len1 cap1 (encL2 w9 (L.drop i9.toNat))) → (cap ≤ cap1) → (0 ≤ i9 ∧ i9 ≤ L.length) → (0 ≤ w9 ∧ w9 < 200 ∧ ∀ j : Int, i9 ≤ j → j < (L.length : Int) → 64 * w9 ≤ pwL L j) → (L.length - i9).toNat < N → V G p l e { frames := 6, cells := (cap2 - cap).toNat, slots := (2 * (cap2 - cap)).toNat, locals := 240 } s m args below meth c (MQW G below args s ((cap2 - cap).toNat) ((2 * (cap2 - cap)).toNat) (pV PO)) w ((cap1 - cap).toNat) ((2 * (cap1 - cap)).toNat) 85 [some (.ref r), some (.ref a), none, none, some (.int (iI w9)), some (.int (iI i9)), none] [] := by
      intro N
      induction N with
      | zero => intro w len1 cap1 w9 i9 h1 hm1 hmL hmC hF hW hcc hi hw9 hm; exact absurd hm (Nat.not_lt_zero _)
      | succ N ih =>
        intro w len1 cap1 w9 i9 h1 hm1 hmL hmC hF hW hcc hi hw9 hm
        have hcap := hW.le hc
        refine v_iload C dX4_writeMoment_85 rfl ?_
        refine v_aload_n C dX4_writeMoment_87 rfl ?_
        refine v_getN C g93 hm1 rfl dX4_writeMoment_88 ?_
        refine v_callVi C (q := (RJx4a65c, TJx4a65c, 3)) (As := []) (rest := [_]) (c_Jx4a65c_size_8abf5 hmL) (cwV 0 hts gX4_writeMoment_Jx4a65c_size_8abf5 rfl rfl rfl (by decide +kernel) ⟨Nat.le_of_ble_eq_true rfl, Nat.le_of_ble_eq_true rfl⟩) (hmL.obj.choose_spec) rfl rfl rfl (Nat.le_of_ble_eq_true rfl) dX4_writeMoment_91 (by dsimp only; omega) (by dsimp only; omega) (fun x_91 w hp => ?_)
        obtain ⟨hx9, rfl⟩ := hp
        rw [hx9]
        refine v_icmp_ge C (⟨by omega, by omega⟩) (⟨by omega, by omega⟩) (tgt := 162) dX4_writeMoment_94 (by decide) (fun c_94 => ?_) (fun c_94 => ?_)
        · exact v_vret C rfl dX4_writeMoment_162 (by omega) (by omega) (hPO _ ⟨by
              rw [show L.drop i9.toNat = [] from List.drop_eq_nil_of_le (by omega)] at hW
              exact (hW.done hc).1, hF⟩)
        · have eD := dropL (L := L) hi.1 (by omega : i9 < L.length)
          have hpi := hS.1 i9 hi.1 (by omega)
          have hvi := hV i9 hi.1 (by omega)
          have hwi := hw9.2.2 i9 (Int.le_refl _) (by omega)
          have hW : WS G w (T + 1) bt b len cap (encM2 t9 s9 lt9 ls9 L) len1 cap1 (c7 (pwL L i9 / 64 - w9) ++ (c7 (16 * (pwL L i9 % 64) + vlL L i9) ++ encL2 (pwL L i9 / 64) (L.drop (i9 + 1).toNat))) := by rw [eD] at hW; exact hW
          obtain ⟨cN, hcN, hcN2, hcN1, hcN0⟩ := hW.next hc
          refine v_aload_n C dX4_writeMoment_97 rfl ?_
          refine v_getN C g93 hm1 rfl dX4_writeMoment_98 ?_
          refine v_iload C dX4_writeMoment_101 rfl ?_
          refine v_callVr C (q := (RJx4a65c, TJx4a65c, 3)) (As := [_]) (rest := []) (c_Jx4a65c_get_915e3 hmL (i := i9) ⟨by omega, by omega⟩) (cwV 1 hts gX4_writeMoment_Jx4a65c_get_915e3 rfl rfl rfl (by decide +kernel) ⟨Nat.le_of_ble_eq_true rfl, Nat.le_of_ble_eq_true rfl⟩) (hmL.obj.choose_spec) rfl rfl rfl (Nat.le_of_ble_eq_true rfl) dX4_writeMoment_103 (by dsimp only; omega) (by dsimp only; omega) (fun x_103 w hp => ?_)
          obtain ⟨rfl, rfl⟩ := hp
          refine v_castY C ((hmC i9 (by omega) (by omega))) rfl (List.mem_of_getElem? (i := 3) rfl) rfl dX4_writeMoment_106 ?_
          refine v_astore C dX4_writeMoment_109 bsl_7_6 (by decide) rfl ?_
          refine v_aload_n C dX4_writeMoment_111 rfl ?_
          refine v_getf C g12 h1 rfl dX4_writeMoment_112 ?_
          refine v_aload C dX4_writeMoment_115 rfl ?_
          refine v_getN C g115 (hmC i9 (by omega) (by omega)) rfl dX4_writeMoment_117 ?_
          refine v_iload C dX4_writeMoment_120 rfl ?_
          refine v_isub C dX4_writeMoment_122 ?_
          refine v_i2l C (⟨by omega, by omega⟩) dX4_writeMoment_123 ?_
          refine v_callVv C (q := (RX0, TX0, 2)) (As := [_]) (rest := []) (c_addW hW (by omega) ⟨by omega, by omega⟩ hcN (by omega)) (cwV 1 hts gX4_writeMoment_X0_addCount rfl rfl rfl (by decide +kernel) ⟨Nat.le_of_ble_eq_true rfl, Nat.le_of_ble_eq_true rfl⟩) (hW.obj.choose_spec) rfl rfl rfl (Nat.le_of_ble_eq_true rfl) dX4_writeMoment_124 (by dsimp only; omega) (by dsimp only; omega) (fun w hp => ?_)
          obtain ⟨hW, hF9⟩ := hp
          have h1 := hF9 _ _ _ (fun h9 => by have h8 : T = T + 1 ∨ T = T + 1 + 1 ∨ T = 0 := h9; omega) h1
          have hm1 := hF9 _ _ _ (fun h9 => by have h8 : 100 + 4 * a = T + 1 ∨ 100 + 4 * a = T + 1 + 1 ∨ 100 + 4 * a = 0 := h9; omega) hm1
          have hmL := hmL.fr hF9 (fun h9 => by have h8 : 101 + 4 * a = T + 1 ∨ 101 + 4 * a = T + 1 + 1 ∨ 101 + 4 * a = 0 := h9; omega) (fun h9 => by have h8 : 101 + 4 * a + 1 = T + 1 ∨ 101 + 4 * a + 1 = T + 1 + 1 ∨ 101 + 4 * a + 1 = 0 := h9; omega)
          have hmC := hmC.fr hF9 (fun h9 => by have h8 : 103 + 4 * a = T + 1 ∨ 103 + 4 * a = T + 1 + 1 ∨ 103 + 4 * a = 0 := h9; omega)
          have hF := hF.tr (hF9.mono (fun t h9 => by have h8 : t = T + 1 ∨ t = T + 1 + 1 ∨ t = 0 := h9; show t = T + 1 ∨ t = T + 1 + 1 ∨ t = 0; omega))
          obtain ⟨cM, hcM, hcM2, hcM1, hcM0⟩ := hW.next hc
          refine v_aload_n C dX4_writeMoment_127 rfl ?_
          refine v_getf C g12 h1 rfl dX4_writeMoment_128 ?_
          refine v_bipush C dX4_writeMoment_131 rfl ?_
          refine v_aload C dX4_writeMoment_133 rfl ?_
          refine v_getN C g118 (hmC i9 (by omega) (by omega)) rfl dX4_writeMoment_135 ?_
          refine v_imul C dX4_writeMoment_138 ?_
          refine v_aload C dX4_writeMoment_139 rfl ?_
          refine v_getN C g121 (hmC i9 (by omega) (by omega)) rfl dX4_writeMoment_141 ?_
          refine v_iadd C dX4_writeMoment_144 ?_
          refine v_i2l C (⟨by omega, by omega⟩) dX4_writeMoment_145 ?_
          refine v_callVv C (q := (RX0, TX0, 2)) (As := [_]) (rest := []) (c_addW hW (by omega) ⟨by omega, by omega⟩ hcM (by omega)) (cwV 1 hts gX4_writeMoment_X0_addCount rfl rfl rfl (by decide +kernel) ⟨Nat.le_of_ble_eq_true rfl, Nat.le_of_ble_eq_true rfl⟩) (hW.obj.choose_spec) rfl rfl rfl (Nat.le_of_ble_eq_true rfl) dX4_writeMoment_146 (by dsimp only; omega) (by dsimp only; omega) (fun w hp => ?_)
          obtain ⟨hW, hF9⟩ := hp
          have h1 := hF9 _ _ _ (fun h9 => by have h8 : T = T + 1 ∨ T = T + 1 + 1 ∨ T = 0 := h9; omega) h1
          have hm1 := hF9 _ _ _ (fun h9 => by have h8 : 100 + 4 * a = T + 1 ∨ 100 + 4 * a = T + 1 + 1 ∨ 100 + 4 * a = 0 := h9; omega) hm1
          have hmL := hmL.fr hF9 (fun h9 => by have h8 : 101 + 4 * a = T + 1 ∨ 101 + 4 * a = T + 1 + 1 ∨ 101 + 4 * a = 0 := h9; omega) (fun h9 => by have h8 : 101 + 4 * a + 1 = T + 1 ∨ 101 + 4 * a + 1 = T + 1 + 1 ∨ 101 + 4 * a + 1 = 0 := h9; omega)
          have hmC := hmC.fr hF9 (fun h9 => by have h8 : 103 + 4 * a = T + 1 ∨ 103 + 4 * a = T + 1 + 1 ∨ 103 + 4 * a = 0 := h9; omega)
          have hF := hF.tr (hF9.mono (fun t h9 => by have h8 : t = T + 1 ∨ t = T + 1 + 1 ∨ t = 0 := h9; show t = T + 1 ∨ t = T + 1 + 1 ∨ t = 0; omega))
          refine v_aload C dX4_writeMoment_149 rfl ?_
          refine v_getN C g115 (hmC i9 (by omega) (by omega)) rfl dX4_writeMoment_151 ?_
          refine v_istore C dX4_writeMoment_154 bsl_7_4 (by decide) rfl ?_
          refine v_iinc C dX4_writeMoment_156 rfl bsl_7_5 (by decide) rfl ?_
          refine v_goto C (tgt := 85) dX4_writeMoment_159 (by decide) ?_
          refine v_kill 6 bsk_7_6 ?_
          refine v_wide (k' := (cM - cap).toNat) (z' := (2 * (cM - cap)).toNat) (by omega) (by omega) ?_
          exact ih w _ cM (pwL L i9 / 64) (i9 + 1) h1 hm1 hmL hmC hF hW (by omega) ⟨by omega, by omega⟩ ⟨by omega, by omega, fun j x y => by have := hS.2 i9 j hi.1 (by omega) y; omega⟩ (by omega)
    refine v_wide (k' := (cN - cap).toNat) (z' := (2 * (cN - cap)).toNat) (by omega) (by omega) ?_
    exact L85 _ w _ cN 0 0 h1 hm1 hmL hmC hF hW (by omega) ⟨by omega, by omega⟩ ⟨by omega, by omega, fun j x y => by have := (hS.1 j x y).1; omega⟩ (Nat.lt_succ_self _)
  refine v_aload_n C dX4_writeMoment_0 rfl ?_
  refine v_getN C g60 hm1 rfl dX4_writeMoment_1 ?_
  refine v_aload_n C dX4_writeMoment_4 rfl ?_
  refine v_callVl C (q := (RX4, TX4, 3)) (As := []) (rest := [_]) (c_X4_lastTime hB hLM) (cwV 0 hts gX4_writeMoment_X4_lastTime rfl rfl rfl (by decide +kernel) ⟨Nat.le_of_ble_eq_true rfl, Nat.le_of_ble_eq_true rfl⟩) (h1) rfl rfl rfl (Nat.le_of_ble_eq_true rfl) dX4_writeMoment_5 (by dsimp only; omega) (by dsimp only; omega) (fun x_5 w hp => ?_)
  obtain ⟨hx9, rfl⟩ := hp
  rw [hx9, ← hlt]
  refine v_lsub C dX4_writeMoment_8 ?_
  refine v_lstore_n C dX4_writeMoment_9 bsj_7_2 (by decide) (Nat.le_of_ble_eq_true rfl) rfl ?_
  refine v_lload_n C dX4_writeMoment_10 rfl ?_
  refine v_lconst C (v := 0) dX4_writeMoment_11 rfl ?_
  refine v_lcmp_ne C (⟨by omega, by omega⟩) (⟨by omega, by omega⟩) (tgt := 41) dX4_writeMoment_12 dX4_writeMoment_13 (by decide) (fun c_12 => ?_) (fun c_12 => ?_)
  · have hW := WS.of (ENC := (encM2 t9 s9 lt9 ls9 L)) hBy
    have eE : (encM2 t9 s9 lt9 ls9 L) = c7 (2 * (t9 - lt9)) ++ (c7 s9 ++ (c7 L.length ++ encL2 0 L)) := by unfold encM2 hdrL; rw [if_neg (by omega), List.append_assoc]
    have hW : WS G w (T + 1) bt b len cap (encM2 t9 s9 lt9 ls9 L) len cap (c7 (2 * (t9 - lt9)) ++ (c7 s9 ++ (c7 L.length ++ encL2 0 L))) := by rw [← eE]; exact hW
    obtain ⟨cN, hcN, hcN2, hcN1, hcN0⟩ := hW.next hc
    refine v_aload_n C dX4_writeMoment_41 rfl ?_
    refine v_getf C g12 h1 rfl dX4_writeMoment_42 ?_
    refine v_ldc2 C (v := 2) (List.mem_of_getElem? (i := 2) rfl) (by decide +kernel) dX4_writeMoment_45 ?_
    refine v_lload_n C dX4_writeMoment_48 rfl ?_
    refine v_lmul C dX4_writeMoment_49 ?_
    refine v_callVv C (q := (RX0, TX0, 2)) (As := [_]) (rest := []) (c_addW hW (by omega) ⟨by omega, by omega⟩ hcN (by omega)) (cwV 1 hts gX4_writeMoment_X0_addCount rfl rfl rfl (by decide +kernel) ⟨Nat.le_of_ble_eq_true rfl, Nat.le_of_ble_eq_true rfl⟩) (hW.obj.choose_spec) rfl rfl rfl (Nat.le_of_ble_eq_true rfl) dX4_writeMoment_50 (by dsimp only; omega) (by dsimp only; omega) (fun w hp => ?_)
    obtain ⟨hW, hF9⟩ := hp
    have h1 := hF9 _ _ _ (fun h9 => by have h8 : T = T + 1 ∨ T = T + 1 + 1 ∨ T = 0 := h9; omega) h1
    have hLs := hLs.fr hF9 (fun h9 => by have h8 : T + 3 = T + 1 ∨ T + 3 = T + 1 + 1 ∨ T + 3 = 0 := h9; omega) (fun h9 => by have h8 : T + 3 + 1 = T + 1 ∨ T + 3 + 1 = T + 1 + 1 ∨ T + 3 + 1 = 0 := h9; omega)
    have hm1 := hF9 _ _ _ (fun h9 => by have h8 : 100 + 4 * a = T + 1 ∨ 100 + 4 * a = T + 1 + 1 ∨ 100 + 4 * a = 0 := h9; omega) hm1
    have hmL := hmL.fr hF9 (fun h9 => by have h8 : 101 + 4 * a = T + 1 ∨ 101 + 4 * a = T + 1 + 1 ∨ 101 + 4 * a = 0 := h9; omega) (fun h9 => by have h8 : 101 + 4 * a + 1 = T + 1 ∨ 101 + 4 * a + 1 = T + 1 + 1 ∨ 101 + 4 * a + 1 = 0 := h9; omega)
    have hmC := hmC.fr hF9 (fun h9 => by have h8 : 103 + 4 * a = T + 1 ∨ 103 + 4 * a = T + 1 + 1 ∨ 103 + 4 * a = 0 := h9; omega)
    have hF := hF.tr (hF9.mono (fun t h9 => by have h8 : t = T + 1 ∨ t = T + 1 + 1 ∨ t = 0 := h9; show t = T + 1 ∨ t = T + 1 + 1 ∨ t = 0; omega))
    obtain ⟨cO, hcO⟩ : ∃ z, z = cN := ⟨_, rfl⟩
    rw [← hcO] at hW hcN2 hcN1 ⊢
    have hcO2 := hcN2
    have hcO1 := hcN1
    clear hcN hcN2 hcN1 hcO
    obtain ⟨cN, hcN, hcN2, hcN1, hcN0⟩ := hW.next hc
    refine v_aload_n C dX4_writeMoment_53 rfl ?_
    refine v_getf C g12 h1 rfl dX4_writeMoment_54 ?_
    refine v_aload_n C dX4_writeMoment_57 rfl ?_
    refine v_getN C g66 hm1 rfl dX4_writeMoment_58 ?_
    refine v_callVv C (q := (RX0, TX0, 2)) (As := [_]) (rest := []) (c_addW hW (by omega) ⟨by omega, by omega⟩ hcN (by omega)) (cwV 1 hts gX4_writeMoment_X0_addCount rfl rfl rfl (by decide +kernel) ⟨Nat.le_of_ble_eq_true rfl, Nat.le_of_ble_eq_true rfl⟩) (hW.obj.choose_spec) rfl rfl rfl (Nat.le_of_ble_eq_true rfl) dX4_writeMoment_61 (by dsimp only; omega) (by dsimp only; omega) (fun w hp => ?_)
    obtain ⟨hW, hF9⟩ := hp
    have h1 := hF9 _ _ _ (fun h9 => by have h8 : T = T + 1 ∨ T = T + 1 + 1 ∨ T = 0 := h9; omega) h1
    have hLs := hLs.fr hF9 (fun h9 => by have h8 : T + 3 = T + 1 ∨ T + 3 = T + 1 + 1 ∨ T + 3 = 0 := h9; omega) (fun h9 => by have h8 : T + 3 + 1 = T + 1 ∨ T + 3 + 1 = T + 1 + 1 ∨ T + 3 + 1 = 0 := h9; omega)
    have hm1 := hF9 _ _ _ (fun h9 => by have h8 : 100 + 4 * a = T + 1 ∨ 100 + 4 * a = T + 1 + 1 ∨ 100 + 4 * a = 0 := h9; omega) hm1
    have hmL := hmL.fr hF9 (fun h9 => by have h8 : 101 + 4 * a = T + 1 ∨ 101 + 4 * a = T + 1 + 1 ∨ 101 + 4 * a = 0 := h9; omega) (fun h9 => by have h8 : 101 + 4 * a + 1 = T + 1 ∨ 101 + 4 * a + 1 = T + 1 + 1 ∨ 101 + 4 * a + 1 = 0 := h9; omega)
    have hmC := hmC.fr hF9 (fun h9 => by have h8 : 103 + 4 * a = T + 1 ∨ 103 + 4 * a = T + 1 + 1 ∨ 103 + 4 * a = 0 := h9; omega)
    have hF := hF.tr (hF9.mono (fun t h9 => by have h8 : t = T + 1 ∨ t = T + 1 + 1 ∨ t = 0 := h9; show t = T + 1 ∨ t = T + 1 + 1 ∨ t = 0; omega))
    refine v_kill 2 bsk_7_2 ?_
    refine v_wide (k' := (cN - cap).toNat) (z' := (2 * (cN - cap)).toNat) (by omega) (by omega) ?_
    exact J64 w _ cN h1 hm1 hmL hmC hF hW (by omega)
  · have hW := WS.of (ENC := (encM2 t9 s9 lt9 ls9 L)) hBy
    have eE : (encM2 t9 s9 lt9 ls9 L) = c7 (2 * (s9 - ls9) + 1) ++ (c7 L.length ++ encL2 0 L) := by unfold encM2 hdrL; rw [if_pos (by omega)]
    have hW : WS G w (T + 1) bt b len cap (encM2 t9 s9 lt9 ls9 L) len cap (c7 (2 * (s9 - ls9) + 1) ++ (c7 L.length ++ encL2 0 L)) := by rw [← eE]; exact hW
    obtain ⟨cN, hcN, hcN2, hcN1, hcN0⟩ := hW.next hc
    refine v_aload_n C dX4_writeMoment_16 rfl ?_
    refine v_getf C g12 h1 rfl dX4_writeMoment_17 ?_
    refine v_ldc2 C (v := 2) (List.mem_of_getElem? (i := 2) rfl) (by decide +kernel) dX4_writeMoment_20 ?_
    refine v_aload_n C dX4_writeMoment_23 rfl ?_
    refine v_getN C g66 hm1 rfl dX4_writeMoment_24 ?_
    refine v_aload_n C dX4_writeMoment_27 rfl ?_
    refine v_callVl C (q := (RX4, TX4, 3)) (As := []) (rest := [_, _, _]) (c_X4_lastStep hB hLM) (cwV 0 hts gX4_writeMoment_X4_lastStep rfl rfl rfl (by decide +kernel) ⟨Nat.le_of_ble_eq_true rfl, Nat.le_of_ble_eq_true rfl⟩) (h1) rfl rfl rfl (Nat.le_of_ble_eq_true rfl) dX4_writeMoment_28 (by dsimp only; omega) (by dsimp only; omega) (fun x_28 w hp => ?_)
    obtain ⟨hx9, rfl⟩ := hp
    rw [hx9, ← hls]
    refine v_lsub C dX4_writeMoment_31 ?_
    refine v_lmul C dX4_writeMoment_32 ?_
    refine v_lconst C (v := 1) dX4_writeMoment_33 rfl ?_
    refine v_ladd C dX4_writeMoment_34 ?_
    refine v_callVv C (q := (RX0, TX0, 2)) (As := [_]) (rest := []) (c_addW hW (by omega) ⟨by omega, by omega⟩ hcN (by omega)) (cwV 1 hts gX4_writeMoment_X0_addCount rfl rfl rfl (by decide +kernel) ⟨Nat.le_of_ble_eq_true rfl, Nat.le_of_ble_eq_true rfl⟩) (hW.obj.choose_spec) rfl rfl rfl (Nat.le_of_ble_eq_true rfl) dX4_writeMoment_35 (by dsimp only; omega) (by dsimp only; omega) (fun w hp => ?_)
    obtain ⟨hW, hF9⟩ := hp
    have h1 := hF9 _ _ _ (fun h9 => by have h8 : T = T + 1 ∨ T = T + 1 + 1 ∨ T = 0 := h9; omega) h1
    have hLs := hLs.fr hF9 (fun h9 => by have h8 : T + 3 = T + 1 ∨ T + 3 = T + 1 + 1 ∨ T + 3 = 0 := h9; omega) (fun h9 => by have h8 : T + 3 + 1 = T + 1 ∨ T + 3 + 1 = T + 1 + 1 ∨ T + 3 + 1 = 0 := h9; omega)
    have hm1 := hF9 _ _ _ (fun h9 => by have h8 : 100 + 4 * a = T + 1 ∨ 100 + 4 * a = T + 1 + 1 ∨ 100 + 4 * a = 0 := h9; omega) hm1
    have hmL := hmL.fr hF9 (fun h9 => by have h8 : 101 + 4 * a = T + 1 ∨ 101 + 4 * a = T + 1 + 1 ∨ 101 + 4 * a = 0 := h9; omega) (fun h9 => by have h8 : 101 + 4 * a + 1 = T + 1 ∨ 101 + 4 * a + 1 = T + 1 + 1 ∨ 101 + 4 * a + 1 = 0 := h9; omega)
    have hmC := hmC.fr hF9 (fun h9 => by have h8 : 103 + 4 * a = T + 1 ∨ 103 + 4 * a = T + 1 + 1 ∨ 103 + 4 * a = 0 := h9; omega)
    have hF := hF.tr (hF9.mono (fun t h9 => by have h8 : t = T + 1 ∨ t = T + 1 + 1 ∨ t = 0 := h9; show t = T + 1 ∨ t = T + 1 + 1 ∨ t = 0; omega))
    refine v_goto C (tgt := 64) dX4_writeMoment_38 (by decide) ?_
    refine v_kill 2 bsk_7_2 ?_
    refine v_wide (k' := (cN - cap).toNat) (z' := (2 * (cN - cap)).toNat) (by omega) (by omega) ?_
    exact J64 w _ cN h1 hm1 hmL hmC hF hW (by omega)
