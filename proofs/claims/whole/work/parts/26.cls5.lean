theorem bsl_8_5 {x0 x1 x2 x3 x4 x5 x6 x7 : Option Value} {v : Value} : stL [x0, x1, x2, x3, x4, x5, x6, x7] 5 v = [x0, x1, x2, x3, x4, some v, x6, x7] := rfl
theorem bsl_8_6 {x0 x1 x2 x3 x4 x5 x6 x7 : Option Value} {v : Value} : stL [x0, x1, x2, x3, x4, x5, x6, x7] 6 v = [x0, x1, x2, x3, x4, x5, some v, x7] := rfl
theorem bsl_8_7 {x0 x1 x2 x3 x4 x5 x6 x7 : Option Value} {v : Value} : stL [x0, x1, x2, x3, x4, x5, x6, x7] 7 v = [x0, x1, x2, x3, x4, x5, x6, some v] := rfl
section CM
variable {G : GG} {w w2 : Wd} {S : Nat → Prop}
theorem fr_new2 {w0 w1 w2 : Wd} {a : Nat} (ha : w0 a = none) (h1 : ∀ b, b ≠ a → w1 b = w0 b) (h2 : ∀ b, b ≠ a → w2 b = w1 b) : Fr (fun _ => False) w0 w2 := fun b t e _ hb => by
  have hne : b ≠ a := fun q => by rw [q, ha] at hb; cases hb
  rw [h2 b hne, h1 b hne]
  exact hb
/-- the changes of a moment: n cells, by places, values, values before -/
def ChAt (w : Wd) (tg : Nat) (n : Int) (L : Int → Nat) (pw vl bf : Int → Int) : Prop := ∀ j, 0 ≤ j → j < n → w (L j) = some (tg, .inr (4, chV (pw j) (vl j) (bf j)))
theorem ChAt.fr {tg : Nat} {n : Int} {L : Int → Nat} {pw vl bf : Int → Int} (h : ChAt w tg n L pw vl bf) (hF : Fr S w w2) (h0 : ¬ S tg) : ChAt w2 tg n L pw vl bf := fun j a b => hF _ _ _ h0 (h j a b)
theorem ChAt.mem {tg : Nat} {n : Int} {L : Int → Nat} {pw vl bf : Int → Int} (h : ChAt w tg n L pw vl bf) : Mem w (fun t => t = tg) 4 n L := fun j a b => ⟨tg, _, rfl, h j a b⟩
theorem ChAt.ins {tg : Nat} {n : Int} {L : Int → Nat} {pw vl bf : Int → Int} (h : ChAt w tg n L pw vl bf) {i p v b : Int} {a : Nat} (ha : w a = some (tg, .inr (4, chV p v b))) (hi : 0 ≤ i ∧ i ≤ n) : ChAt w tg (n + 1) (insA L i a) (insA pw i p) (insA vl i v) (insA bf i b) := fun j h0 h1 => by
  by_cases q : j = i
  · rw [q, insA_at, insA_at, insA_at, insA_at]; exact ha
  · by_cases q2 : j < i
    · rw [insA_lo q2, insA_lo q2, insA_lo q2, insA_lo q2]; exact h j h0 (by omega)
    · rw [insA_hi (by omega), insA_hi (by omega), insA_hi (by omega), insA_hi (by omega)]; exact h _ (by omega) (by omega)
theorem ChAt.del {tg : Nat} {n : Int} {L : Int → Nat} {pw vl bf : Int → Int} (h : ChAt w tg n L pw vl bf) {i : Int} (hi : 0 ≤ i ∧ i < n) : ChAt w tg (n - 1) (delA L i) (delA pw i) (delA vl i) (delA bf i) := fun j h0 h1 => by
  by_cases q2 : j < i
  · rw [delA_lo q2, delA_lo q2, delA_lo q2, delA_lo q2]; exact h j h0 (by omega)
  · rw [delA_hi (by omega), delA_hi (by omega), delA_hi (by omega), delA_hi (by omega)]; exact h _ (by omega) (by omega)
theorem ChAt.set {tg : Nat} {n : Int} {L : Int → Nat} {pw vl bf : Int → Int} (h : ChAt w tg n L pw vl bf) {i v b : Int} {a : Nat} (ha : w a = some (tg, .inr (4, chV (pw i) v b))) : ChAt w tg n (upA L i a) pw (upI vl i v) (upI bf i b) := fun j h0 h1 => by
  by_cases q : j = i
  · rw [q, upA_eq, upI_eq, upI_eq]; exact ha
  · rw [upA_ne q, upI_ne q, upI_ne q]; exact h j h0 h1
theorem ChAt.add {tg : Nat} {n : Int} {L : Int → Nat} {pw vl bf : Int → Int} (h : ChAt w tg n L pw vl bf) {p v b : Int} {a : Nat} (ha : w a = some (tg, .inr (4, chV p v b))) : ChAt w tg (n + 1) (upA L n a) (upI pw n p) (upI vl n v) (upI bf n b) := fun j h0 h1 => by
  by_cases q : j = n
  · rw [q, upA_eq, upI_eq, upI_eq, upI_eq]; exact ha
  · rw [upA_ne q, upI_ne q, upI_ne q, upI_ne q]; exact h j h0 (by omega)
theorem chV_of {wi el v b : Int} (hw : 0 ≤ wi) (he : 0 ≤ el ∧ el < 64) : chV (64 * wi + el) v b = [.int (iI wi), .int (iI el), .int (iI v), .int (iI b)] := by
  unfold chV
  rw [show (64 * wi + el) / 64 = wi by omega, show (64 * wi + el) % 64 = el by omega]
/-- a moment: its object a (tag 100 + 4a), its list (101 + 4a, 102 + 4a), its changes (103 + 4a) -/
def MomAt (G : GG) (w : Wd) (a : Nat) (t s pl n : Int) (pw vl bf : Int → Int) : Prop := ∃ (lr : Nat) (L : Int → Nat), w a = some (100 + 4 * a, .inr (5, [.long (lI t), .long (lI s), .ref lr, .int (iI pl)])) ∧ ListAt G w (101 + 4 * a) lr n L ∧ ChAt w (103 + 4 * a) n L pw vl bf
theorem MomAt.fr {a : Nat} {t s pl n : Int} {pw vl bf : Int → Int} (h : MomAt G w a t s pl n pw vl bf) (hF : Fr S w w2) (h0 : ¬ S (100 + 4 * a)) (h1 : ¬ S (101 + 4 * a)) (h2 : ¬ S (102 + 4 * a)) (h3 : ¬ S (103 + 4 * a)) : MomAt G w2 a t s pl n pw vl bf := by
  obtain ⟨lr, L, q1, q2, q3⟩ := h
  exact ⟨lr, L, hF _ _ _ h0 q1, q2.fr hF h1 (by rw [show 101 + 4 * a + 1 = 102 + 4 * a by omega]; exact h2), q3.fr hF h3⟩
theorem MomAt.obj {a : Nat} {t s pl n : Int} {pw vl bf : Int → Int} (h : MomAt G w a t s pl n pw vl bf) : ∃ fs, w a = some (100 + 4 * a, .inr (5, fs)) := by
  obtain ⟨lr, L, q1, -⟩ := h
  exact ⟨_, q1⟩
theorem MomAt.rg {a : Nat} {t s pl n : Int} {pw vl bf : Int → Int} (h : MomAt G w a t s pl n pw vl bf) : 0 ≤ n := by
  obtain ⟨lr, L, -, q, -⟩ := h
  exact q.rg.1
end CM
/-- places in rising order -/
def Srt (n : Int) (pw : Int → Int) : Prop := (∀ j, 0 ≤ j → j < n → 0 ≤ pw j ∧ pw j < 12800) ∧ ∀ i j, 0 ≤ i → i < j → j < n → pw i < pw j
/-- what put does to a moment's changes -/
def PutR (n : Int) (pw vl bf : Int → Int) (P v b0 x n2 : Int) (pw2 vl2 bf2 : Int → Int) : Prop :=
  (∃ i, (0 ≤ i ∧ i < n) ∧ pw i = P ∧ ((v = vl i ∧ x = 0 ∧ n2 = n ∧ pw2 = pw ∧ vl2 = vl ∧ bf2 = bf) ∨ (v ≠ vl i ∧ v = b0 ∧ x = 1 ∧ n2 = n - 1 ∧ pw2 = delA pw i ∧ vl2 = delA vl i ∧ bf2 = delA bf i) ∨ (v ≠ vl i ∧ v ≠ b0 ∧ x = 1 ∧ n2 = n ∧ pw2 = pw ∧ vl2 = upI vl i v ∧ bf2 = upI bf i b0))) ∨
  (∃ i, (0 ≤ i ∧ i ≤ n) ∧ (∀ j, 0 ≤ j → j < i → pw j < P) ∧ (∀ j, i ≤ j → j < n → P < pw j) ∧ ((v = b0 ∧ x = 0 ∧ n2 = n ∧ pw2 = pw ∧ vl2 = vl ∧ bf2 = bf) ∨ (v ≠ b0 ∧ x = 1 ∧ n2 = n + 1 ∧ pw2 = insA pw i P ∧ vl2 = insA vl i v ∧ bf2 = insA bf i b0)))
theorem Srt.hi {n P x : Int} {pw : Int → Int} (h : Srt n pw) (h2 : x < n → P ≤ pw x) (h3 : ¬ (x < n ∧ pw x = P)) (hx : 0 ≤ x) : ∀ j, x ≤ j → j < n → P < pw j := fun j a b => by
  have h4 : x < n := by omega
  have h5 : P < pw x := by have := h2 h4; have : pw x ≠ P := fun q => h3 ⟨h4, q⟩; omega
  by_cases q : j = x
  · rw [q]; exact h5
  · have := h.2 x j hx (by omega) b; omega
set_option maxRecDepth 100000 in
set_option maxHeartbeats 400000 in
theorem c_X2_init {G : GG} {l : Launch} {w : Wd} {r : Nat} {t9 s9 : Int} {pw vl bf : Int → Int} (h1 : w r = some (100 + 4 * r, .inr (5, [.long (lI 0), .long (lI 0), .null, .int (iI 0)]))) : MG G l yX2_init wsX2_init 4 160 (1) (3) [.ref r, .long (lI t9), .long (lI s9)] w (pV (fun (w' : Wd) => MomAt G w' r t9 s9 (-1) 0 pw vl bf ∧ Fr (fun t => t = 100 + 4 * r ∨ t = 101 + 4 * r) w w')) := by
  refine MG.of (cc := cX2_init) (nL := 5) (ret := none) (ll := [some (.ref r), some (.long (lI t9)), none, some (.long (lI s9)), none]) (by decide) rfl (Nat.le_of_ble_eq_true rfl) rfl ?_
  intro p e s m args below meth c C
  have hts := C.2.2.2.2.1
  have p9 : PutX G s m args meth 9 5 0 (.long) := putX_of C 5 0 tyX2 tyX2_ok nmX2 (T := TX2) (N := 4) (Cn := RX2) (ref := "TraceBook$Moment") rfl (by decide) (fun _ h => List.mem_cons_of_mem _ (List.mem_append_left _ (List.mem_append_right _ (h)))) (List.mem_of_getElem? (i := 4) rfl) (fun _ h => h) rfl rfl rfl (by decide +kernel)
  have p15 : PutX G s m args meth 15 5 1 (.long) := putX_of C 5 1 tyX2 tyX2_ok nmX2 (T := TX2) (N := 4) (Cn := RX2) (ref := "TraceBook$Moment") rfl (by decide) (fun _ h => List.mem_cons_of_mem _ (List.mem_append_left _ (List.mem_append_right _ (h)))) (List.mem_of_getElem? (i := 5) rfl) (fun _ h => h) rfl rfl rfl (by decide +kernel)
  have p21 : PutX G s m args meth 21 5 2 (.object "java/util/ArrayList") := putX_of C 5 2 tyX2 tyX2_ok nmX2 (T := TX2) (N := 4) (Cn := RX2) (ref := "TraceBook$Moment") rfl (by decide) (fun _ h => List.mem_cons_of_mem _ (List.mem_append_left _ (List.mem_append_right _ (h)))) (List.mem_of_getElem? (i := 9) rfl) (fun _ h => h) rfl rfl rfl (by decide +kernel)
  have p25 : PutF G s m args 25 5 3 (.int) := putF_of C 5 3 tyX2 tyX2_ok nmX2 (T := TX2) (N := 4) (Cn := RX2) (ref := "TraceBook$Moment") rfl (by decide) (fun _ h => List.mem_cons_of_mem _ (List.mem_append_left _ (List.mem_append_right _ (h)))) (List.mem_of_getElem? (i := 10) rfl) (fun _ h => h) rfl (by decide +kernel)
  refine poV (P := fun PO => V G p l e _ s m args below meth c (MQW G below args s _ _ (pV PO)) w 0 0 0 _ []) (fun PO hPO => ?_)
  obtain ⟨w0, hw0⟩ : ∃ z, z = w := ⟨_, rfl⟩
  rw [← hw0] at hPO
  have hF : Fr (fun t => t = 100 + 4 * r ∨ t = 101 + 4 * r) w0 w := by rw [hw0]; exact Fr.rf
  refine v_aload_n C dX2_init_0 rfl ?_
  refine v_objInit C (List.mem_of_getElem? (i := 1) rfl) (List.mem_of_getElem? (i := 2) rfl) (List.mem_of_getElem? (i := 3) rfl) (Nat.le_of_ble_eq_true rfl) (Nat.le_of_ble_eq_true rfl) dX2_init_1 ?_
  refine v_aload_n C dX2_init_4 rfl ?_
  refine v_lload_n C dX2_init_5 rfl ?_
  refine v_putX C p9 h1 rfl rfl (Nat.le_of_ble_eq_true rfl) dX2_init_6 ?_
  refine v_upd h1 (fun w h1 hF9 hE9 => ?_)
  have hF := hF.tr (hF9.mono (fun t h9 => by have h8 : t = 100 + 4 * r := h9; show t = 100 + 4 * r ∨ t = 101 + 4 * r; omega))
  refine v_aload_n C dX2_init_9 rfl ?_
  refine v_lload_n C dX2_init_10 rfl ?_
  refine v_putX C p15 h1 rfl rfl (Nat.le_of_ble_eq_true rfl) dX2_init_11 ?_
  refine v_upd h1 (fun w h1 hF9 hE9 => ?_)
  have hF := hF.tr (hF9.mono (fun t h9 => by have h8 : t = 100 + 4 * r := h9; show t = 100 + 4 * r ∨ t = 101 + 4 * r; omega))
  refine v_aload_n C dX2_init_14 rfl ?_
  refine v_new C (ci := 2) (T := TJx4a65c) (N := 3) (Cn := RJx4a65c) (fs := [.int (iI 0), .null, .int (iI 0)]) (101 + 4 * r) tyJx4a65c tyJx4a65c_ok rfl (fun _ h => List.mem_cons_of_mem _ (List.mem_append_right _ (h))) (List.mem_of_getElem? (i := 6) rfl) (List.mem_of_getElem? (i := 7) rfl) (List.mem_of_getElem? (i := 8) rfl) (fun j hj => by rcases (by omega : j = 0 ∨ j = 1 ∨ j = 2) with rfl | rfl | rfl <;> rfl) (by dsimp only; omega) (by dsimp only; omega) dX2_init_15 (fun a15 ha15 => ?_)
  refine v_fresh ha15 (fun w h15 hF9 hE9 => ?_)
  have h1 := hF9 _ _ _ (fun h9 => h9) h1
  have hF := hF.tr (hF9.mono (fun t h9 => h9.elim))
  refine v_dup C rfl dX2_init_18 ?_
  refine v_callI C (ret2 := none) (b := _) (t := 0) (ci := 0) (fs := []) (q := (RX7, TX7, 33)) (As := []) (rest := [_, _]) (c_Jx4a65c_init_da8c8 h15) (cwI 0 hts gX2_init_Jx4a65c_init_da8c8 rfl rfl rfl (hts _ (List.mem_of_getElem? (i := 8) rfl)) (hts _ (List.mem_of_getElem? (i := 11) rfl)) (hts _ (List.mem_of_getElem? (i := 12) rfl)) rfl (by decide +kernel) ⟨Nat.le_of_ble_eq_true rfl, Nat.le_of_ble_eq_true rfl⟩) rfl rfl (Nat.le_of_ble_eq_true rfl) dX2_init_19 (by dsimp only; omega) (by dsimp only; omega) (fun w hp => ?_)
  obtain ⟨hL, hF9⟩ := hp
  have h1 := hF9 _ _ _ (fun h9 => by have h8 : 100 + 4 * r = 101 + 4 * r := h9; omega) h1
  have hF := hF.tr (hF9.mono (fun t h9 => by have h8 : t = 101 + 4 * r := h9; show t = 100 + 4 * r ∨ t = 101 + 4 * r; omega))
  refine v_putX C p21 h1 rfl rfl (Nat.le_of_ble_eq_true rfl) dX2_init_22 ?_
  refine v_upd h1 (fun w h1 hF9 hE9 => ?_)
  have hL := hL.fr hF9 (fun h9 => by have h8 : 101 + 4 * r = 100 + 4 * r := h9; omega) (fun h9 => by have h8 : 101 + 4 * r + 1 = 100 + 4 * r := h9; omega)
  have hF := hF.tr (hF9.mono (fun t h9 => by have h8 : t = 100 + 4 * r := h9; show t = 100 + 4 * r ∨ t = 101 + 4 * r; omega))
  refine v_aload_n C dX2_init_25 rfl ?_
  refine v_iconst C dX2_init_26 ?_
  refine v_putf C p25 h1 rfl rfl (Nat.le_of_ble_eq_true rfl) dX2_init_27 ?_
  refine v_upd h1 (fun w h1 hF9 hE9 => ?_)
  have hL := hL.fr hF9 (fun h9 => by have h8 : 101 + 4 * r = 100 + 4 * r := h9; omega) (fun h9 => by have h8 : 101 + 4 * r + 1 = 100 + 4 * r := h9; omega)
  have hF := hF.tr (hF9.mono (fun t h9 => by have h8 : t = 100 + 4 * r := h9; show t = 100 + 4 * r ∨ t = 101 + 4 * r; omega))
  exact v_vret C rfl dX2_init_30 (by omega) (by omega) (hPO _ ⟨⟨a15, _, h1, hL, fun j a b => by omega⟩, hF⟩)
set_option maxRecDepth 100000 in
set_option maxHeartbeats 400000 in
theorem c_X2_isLaterThan {G : GG} {l : Launch} {w : Wd} {r : Nat} {tg : Nat} {t9 s9 ot os : Int} {q1 q2 : Value} (h1 : w r = some (tg, .inr (5, [.long (lI t9), .long (lI s9), q1, q2]))) (h2 : R64 t9 ∧ R64 s9) (h3 : R64 ot ∧ R64 os) : MG G l yX2_isLaterThan wsX2_isLaterThan 1 40 (0) (0) [.ref r, .long (lI ot), .long (lI os)] w (pI (fun (x : Int) (w' : Wd) => BP x (ot < t9 ∨ (t9 = ot ∧ os < s9)) ∧ w' = w)) := by
  refine MG.of (cc := cX2_isLaterThan) (nL := 5) (ret := (some .boolean)) (ll := [some (.ref r), some (.long (lI ot)), none, some (.long (lI os)), none]) (by decide) rfl (Nat.le_of_ble_eq_true rfl) rfl ?_
  intro p e s m args below meth c C
  have hts := C.2.2.2.2.1
  have g9 : GetF G s m args 9 5 0 := getF_of C 5 0 (T := TX2) (N := 4) (Cn := RX2) (ref := "TraceBook$Moment") rfl (by decide) (fun _ h => List.mem_cons_of_mem _ (List.mem_append_right _ (h))) (List.mem_of_getElem? (i := 1) rfl) (fun _ h => h)
  have g15 : GetF G s m args 15 5 1 := getF_of C 5 1 (T := TX2) (N := 4) (Cn := RX2) (ref := "TraceBook$Moment") rfl (by decide) (fun _ h => List.mem_cons_of_mem _ (List.mem_append_right _ (h))) (List.mem_of_getElem? (i := 2) rfl) (fun _ h => h)
  refine poI (P := fun PO => V G p l e _ s m args below meth c (MQW G below args s _ _ (pI PO)) w 0 0 0 _ []) (fun PO hPO => ?_)
  refine v_aload_n C dX2_isLaterThan_0 rfl ?_
  refine v_getf C g9 h1 rfl dX2_isLaterThan_1 ?_
  refine v_lload_n C dX2_isLaterThan_4 rfl ?_
  refine v_lcmp_gt C (⟨by omega, by omega⟩) (⟨by omega, by omega⟩) (tgt := 27) dX2_isLaterThan_5 dX2_isLaterThan_6 (by decide) (fun c_5 => ?_) (fun c_5 => ?_)
  · refine v_iconst C dX2_isLaterThan_27 ?_
    refine v_goto C (tgt := 32) dX2_isLaterThan_28 (by decide) ?_
    exact v_zret C rfl (by omega) dX2_isLaterThan_32 (by omega) (by omega) (hPO _ _ ⟨Or.inl ⟨rfl, by omega⟩, rfl⟩)
  · refine v_aload_n C dX2_isLaterThan_9 rfl ?_
    refine v_getf C g9 h1 rfl dX2_isLaterThan_10 ?_
    refine v_lload_n C dX2_isLaterThan_13 rfl ?_
    refine v_lcmp_ne C (⟨by omega, by omega⟩) (⟨by omega, by omega⟩) (tgt := 31) dX2_isLaterThan_14 dX2_isLaterThan_15 (by decide) (fun c_14 => ?_) (fun c_14 => ?_)
    · refine v_iconst C dX2_isLaterThan_31 ?_
      exact v_zret C rfl (by omega) dX2_isLaterThan_32 (by omega) (by omega) (hPO _ _ ⟨Or.inr ⟨rfl, by omega⟩, rfl⟩)
    · refine v_aload_n C dX2_isLaterThan_18 rfl ?_
      refine v_getf C g15 h1 rfl dX2_isLaterThan_19 ?_
      refine v_lload_n C dX2_isLaterThan_22 rfl ?_
      refine v_lcmp_le C (⟨by omega, by omega⟩) (⟨by omega, by omega⟩) (tgt := 31) dX2_isLaterThan_23 dX2_isLaterThan_24 (by decide) (fun c_23 => ?_) (fun c_23 => ?_)
      · refine v_iconst C dX2_isLaterThan_31 ?_
        exact v_zret C rfl (by omega) dX2_isLaterThan_32 (by omega) (by omega) (hPO _ _ ⟨Or.inr ⟨rfl, by omega⟩, rfl⟩)
      · refine v_iconst C dX2_isLaterThan_27 ?_
        refine v_goto C (tgt := 32) dX2_isLaterThan_28 (by decide) ?_
        exact v_zret C rfl (by omega) dX2_isLaterThan_32 (by omega) (by omega) (hPO _ _ ⟨Or.inl ⟨rfl, by omega⟩, rfl⟩)
set_option maxRecDepth 100000 in
set_option maxHeartbeats 400000 in
theorem c_X2_indexFor {G : GG} {l : Launch} {w : Wd} {r : Nat} {t9 s9 pl n : Int} {pw vl bf : Int → Int} {wi el : Int} (hB : MomAt G w r t9 s9 pl n pw vl bf) (hS : Srt n pw) (hw : 0 ≤ wi ∧ wi < 200) (he : 0 ≤ el ∧ el < 64) : MG G l yX2_indexFor wsX2_indexFor 4 160 (0) (0) [.ref r, .int (iI wi), .int (iI el)] w (pI (fun (x : Int) (w' : Wd) => (0 ≤ x ∧ x ≤ n) ∧ (∀ j, 0 ≤ j → j < x → pw j < (64 * wi + el)) ∧ (x < n → (64 * wi + el) ≤ pw x) ∧ w' = w)) := by
  refine MG.of (cc := cX2_indexFor) (nL := 4) (ret := (some .int)) (ll := [some (.ref r), some (.int (iI wi)), some (.int (iI el)), none]) (by decide) rfl (Nat.le_of_ble_eq_true rfl) rfl ?_
  intro p e s m args below meth c C
  have hts := C.2.2.2.2.1
  have g21 : GetF G s m args 21 5 2 := getF_of C 5 2 (T := TX2) (N := 4) (Cn := RX2) (ref := "TraceBook$Moment") rfl (by decide) (fun _ h => List.mem_cons_of_mem _ (List.mem_append_left _ (List.mem_append_left _ (List.mem_append_right _ (h))))) (List.mem_of_getElem? (i := 1) rfl) (fun _ h => h)
  refine poI (P := fun PO => V G p l e _ s m args below meth c (MQW G below args s _ _ (pI PO)) w 0 0 0 _ []) (fun PO hPO => ?_)
  obtain ⟨lr, L, h1, hL, hC⟩ := hB
  have hn0 := hL.rg
  refine v_iconst C dX2_indexFor_0 ?_
  refine v_istore_n C dX2_indexFor_1 bsl_4_3 (by decide) rfl ?_
  have L2 : ∀ (N : Nat) (i9 : Int), (0 ≤ i9 ∧ i9 ≤ n) → (∀ j, 0 ≤ j → j < i9 → pw j < (64 * wi + el)) → (n - i9).toNat < N → V G p l e { frames := 4, cells := 0, slots := 0, locals := 160 } s m args below meth c (MQW G below args s (0) (0) (pI PO)) w (0) (0) 2 [some (.ref r), some (.int (iI wi)), some (.int (iI el)), some (.int (iI i9))] [] := by
    intro N
    induction N with
    | zero => intro i9 hi hlt hm; exact absurd hm (Nat.not_lt_zero _)
    | succ N ih =>
      intro i9 hi hlt hm
      refine v_iload_n C dX2_indexFor_2 rfl ?_
      refine v_aload_n C dX2_indexFor_3 rfl ?_
      refine v_getf C g21 h1 rfl dX2_indexFor_4 ?_
      refine v_callVi C (q := (RJx4a65c, TJx4a65c, 3)) (As := []) (rest := [_]) (c_Jx4a65c_size_8abf5 hL) (cwV 0 hts gX2_indexFor_Jx4a65c_size_8abf5 rfl rfl rfl (by decide +kernel) ⟨Nat.le_of_ble_eq_true rfl, Nat.le_of_ble_eq_true rfl⟩) (hL.obj.choose_spec) rfl rfl rfl (Nat.le_of_ble_eq_true rfl) dX2_indexFor_7 (by dsimp only; omega) (by dsimp only; omega) (fun x_7 w hp => ?_)
      obtain ⟨hx_7, rfl⟩ := hp
      refine v_wide (k' := 0) (z' := 0) (Nat.le_refl _) (Nat.le_refl _) ?_
      refine v_icmp_ge C (⟨by omega, by omega⟩) (⟨by omega, by omega⟩) (tgt := 40) dX2_indexFor_10 (by decide) (fun c_10 => ?_) (fun c_10 => ?_)
      · refine v_aload_n C dX2_indexFor_40 rfl ?_
        refine v_getf C g21 h1 rfl dX2_indexFor_41 ?_
        refine v_callVi C (q := (RJx4a65c, TJx4a65c, 3)) (As := []) (rest := []) (c_Jx4a65c_size_8abf5 hL) (cwV 0 hts gX2_indexFor_Jx4a65c_size_8abf5 rfl rfl rfl (by decide +kernel) ⟨Nat.le_of_ble_eq_true rfl, Nat.le_of_ble_eq_true rfl⟩) (hL.obj.choose_spec) rfl rfl rfl (Nat.le_of_ble_eq_true rfl) dX2_indexFor_44 (by dsimp only; omega) (by dsimp only; omega) (fun x_44 w hp => ?_)
        obtain ⟨hx_44, rfl⟩ := hp
        refine v_wide (k' := 0) (z' := 0) (Nat.le_refl _) (Nat.le_refl _) ?_
        exact v_iret C rfl dX2_indexFor_47 (by omega) (by omega) (hPO _ _ ⟨⟨by omega, by omega⟩, fun j a b => hlt j a (by omega), fun q => by omega, rfl⟩)
      · refine v_aload_n C dX2_indexFor_13 rfl ?_
        refine v_getf C g21 h1 rfl dX2_indexFor_14 ?_
        refine v_iload_n C dX2_indexFor_17 rfl ?_
        refine v_callVr C (q := (RJx4a65c, TJx4a65c, 3)) (As := [_]) (rest := []) (c_Jx4a65c_get_915e3 hL (i := i9) ⟨by omega, by omega⟩) (cwV 1 hts gX2_indexFor_Jx4a65c_get_915e3 rfl rfl rfl (by decide +kernel) ⟨Nat.le_of_ble_eq_true rfl, Nat.le_of_ble_eq_true rfl⟩) (hL.obj.choose_spec) rfl rfl rfl (Nat.le_of_ble_eq_true rfl) dX2_indexFor_18 (by dsimp only; omega) (by dsimp only; omega) (fun x_18 w hp => ?_)
        obtain ⟨rfl, rfl⟩ := hp
        refine v_wide (k' := 0) (z' := 0) (Nat.le_refl _) (Nat.le_refl _) ?_
        refine v_castY C ((hC i9 (by omega) (by omega))) rfl (List.mem_of_getElem? (i := 2) rfl) rfl dX2_indexFor_21 ?_
        refine v_iload_n C dX2_indexFor_24 rfl ?_
        refine v_iload_n C dX2_indexFor_25 rfl ?_
        refine v_callVi C (q := (RX1, TX1, 4)) (As := [_, _]) (rest := []) (c_X1_standsBefore (hC i9 (by omega) (by omega)) (hS.1 i9 (by omega) (by omega)) hw he) (cwV 2 hts gX2_indexFor_X1_standsBefore rfl rfl rfl (by decide +kernel) ⟨Nat.le_of_ble_eq_true rfl, Nat.le_of_ble_eq_true rfl⟩) ((hC i9 (by omega) (by omega))) rfl rfl rfl (Nat.le_of_ble_eq_true rfl) dX2_indexFor_26 (by dsimp only; omega) (by dsimp only; omega) (fun x_26 w hp => ?_)
        obtain ⟨hx_26, rfl⟩ := hp
        refine v_wide (k' := 0) (z' := 0) (Nat.le_refl _) (Nat.le_refl _) ?_
        refine v_if_ne C (hx_26.r32) (tgt := 34) dX2_indexFor_29 (by decide) (fun c_29 => ?_) (fun c_29 => ?_)
        · refine v_iinc C dX2_indexFor_34 rfl bsl_4_3 (by decide) rfl ?_
          refine v_goto C (tgt := 2) dX2_indexFor_37 (by decide) ?_
          exact ih (i9 + 1) ⟨by omega, by omega⟩ (fun j a b => by
            by_cases q : j = i9
            · rw [q]; exact hx_26.nz c_29
            · exact hlt j a (by omega)) (by omega)
        · refine v_iload_n C dX2_indexFor_32 rfl ?_
          exact v_iret C rfl dX2_indexFor_33 (by omega) (by omega) (hPO _ _ ⟨⟨by omega, by omega⟩, hlt, fun _ => by have := hx_26.z c_29; omega, rfl⟩)
  exact L2 _ 0 ⟨by omega, by omega⟩ (fun j a b => by omega) (Nat.lt_succ_self _)
set_option maxRecDepth 100000 in
set_option maxHeartbeats 400000 in
theorem c_X2_isChangeOf {G : GG} {l : Launch} {w : Wd} {r : Nat} {t9 s9 pl n : Int} {pw vl bf : Int → Int} {i : Int} {wi el : Int} (hB : MomAt G w r t9 s9 pl n pw vl bf) (hS : Srt n pw) (hi : 0 ≤ i ∧ i ≤ n) (hw : 0 ≤ wi ∧ wi < 200) (he : 0 ≤ el ∧ el < 64) : MG G l yX2_isChangeOf wsX2_isChangeOf 4 160 (0) (0) [.ref r, .int (iI i), .int (iI wi), .int (iI el)] w (pI (fun (x : Int) (w' : Wd) => BP x (i < n ∧ pw i = (64 * wi + el)) ∧ w' = w)) := by
  refine MG.of (cc := cX2_isChangeOf) (nL := 4) (ret := (some .boolean)) (ll := [some (.ref r), some (.int (iI i)), some (.int (iI wi)), some (.int (iI el))]) (by decide) rfl (Nat.le_of_ble_eq_true rfl) rfl ?_
  intro p e s m args below meth c C
  have hts := C.2.2.2.2.1
  have g21 : GetF G s m args 21 5 2 := getF_of C 5 2 (T := TX2) (N := 4) (Cn := RX2) (ref := "TraceBook$Moment") rfl (by decide) (fun _ h => List.mem_cons_of_mem _ (List.mem_append_left _ (List.mem_append_left _ (List.mem_append_right _ (h))))) (List.mem_of_getElem? (i := 1) rfl) (fun _ h => h)
  refine poI (P := fun PO => V G p l e _ s m args below meth c (MQW G below args s _ _ (pI PO)) w 0 0 0 _ []) (fun PO hPO => ?_)
  obtain ⟨lr, L, h1, hL, hC⟩ := hB
  have hn0 := hL.rg
  refine v_iload_n C dX2_isChangeOf_0 rfl ?_
  refine v_aload_n C dX2_isChangeOf_1 rfl ?_
  refine v_getf C g21 h1 rfl dX2_isChangeOf_2 ?_
  refine v_callVi C (q := (RJx4a65c, TJx4a65c, 3)) (As := []) (rest := [_]) (c_Jx4a65c_size_8abf5 hL) (cwV 0 hts gX2_isChangeOf_Jx4a65c_size_8abf5 rfl rfl rfl (by decide +kernel) ⟨Nat.le_of_ble_eq_true rfl, Nat.le_of_ble_eq_true rfl⟩) (hL.obj.choose_spec) rfl rfl rfl (Nat.le_of_ble_eq_true rfl) dX2_isChangeOf_5 (by dsimp only; omega) (by dsimp only; omega) (fun x_5 w hp => ?_)
  obtain ⟨hx_5, rfl⟩ := hp
  refine v_wide (k' := 0) (z' := 0) (Nat.le_refl _) (Nat.le_refl _) ?_
  refine v_icmp_ge C (⟨by omega, by omega⟩) (⟨by omega, by omega⟩) (tgt := 34) dX2_isChangeOf_8 (by decide) (fun c_8 => ?_) (fun c_8 => ?_)
  · refine v_iconst C dX2_isChangeOf_34 ?_
    exact v_zret C rfl (by omega) dX2_isChangeOf_35 (by omega) (by omega) (hPO _ _ ⟨Or.inr ⟨rfl, by omega⟩, rfl⟩)
  · refine v_aload_n C dX2_isChangeOf_11 rfl ?_
    refine v_getf C g21 h1 rfl dX2_isChangeOf_12 ?_
    refine v_iload_n C dX2_isChangeOf_15 rfl ?_
    refine v_callVr C (q := (RJx4a65c, TJx4a65c, 3)) (As := [_]) (rest := []) (c_Jx4a65c_get_915e3 hL (i := i) ⟨by omega, by omega⟩) (cwV 1 hts gX2_isChangeOf_Jx4a65c_get_915e3 rfl rfl rfl (by decide +kernel) ⟨Nat.le_of_ble_eq_true rfl, Nat.le_of_ble_eq_true rfl⟩) (hL.obj.choose_spec) rfl rfl rfl (Nat.le_of_ble_eq_true rfl) dX2_isChangeOf_16 (by dsimp only; omega) (by dsimp only; omega) (fun x_16 w hp => ?_)
    obtain ⟨rfl, rfl⟩ := hp
    refine v_wide (k' := 0) (z' := 0) (Nat.le_refl _) (Nat.le_refl _) ?_
    refine v_castY C ((hC i (by omega) (by omega))) rfl (List.mem_of_getElem? (i := 2) rfl) rfl dX2_isChangeOf_19 ?_
    refine v_iload_n C dX2_isChangeOf_22 rfl ?_
    refine v_iload_n C dX2_isChangeOf_23 rfl ?_
    refine v_callVi C (q := (RX1, TX1, 4)) (As := [_, _]) (rest := []) (c_X1_isOf (hC i (by omega) (by omega)) (hS.1 i (by omega) (by omega)) hw he) (cwV 2 hts gX2_isChangeOf_X1_isOf rfl rfl rfl (by decide +kernel) ⟨Nat.le_of_ble_eq_true rfl, Nat.le_of_ble_eq_true rfl⟩) ((hC i (by omega) (by omega))) rfl rfl rfl (Nat.le_of_ble_eq_true rfl) dX2_isChangeOf_24 (by dsimp only; omega) (by dsimp only; omega) (fun x_24 w hp => ?_)
    obtain ⟨hx_24, rfl⟩ := hp
    refine v_wide (k' := 0) (z' := 0) (Nat.le_refl _) (Nat.le_refl _) ?_
    refine v_if_eq C (hx_24.r32) (tgt := 34) dX2_isChangeOf_27 (by decide) (fun c_27 => ?_) (fun c_27 => ?_)
    · refine v_iconst C dX2_isChangeOf_34 ?_
      exact v_zret C rfl (by omega) dX2_isChangeOf_35 (by omega) (by omega) (hPO _ _ ⟨Or.inr ⟨rfl, fun g => hx_24.z c_27 g.2⟩, rfl⟩)
    · refine v_iconst C dX2_isChangeOf_30 ?_
      refine v_goto C (tgt := 35) dX2_isChangeOf_31 (by decide) ?_
      exact v_zret C rfl (by omega) dX2_isChangeOf_35 (by omega) (by omega) (hPO _ _ ⟨Or.inl ⟨rfl, by omega, hx_24.nz c_27⟩, rfl⟩)
set_option maxRecDepth 100000 in
set_option maxHeartbeats 400000 in
theorem c_X2_changesWire {G : GG} {l : Launch} {w : Wd} {r : Nat} {t9 s9 pl n : Int} {pw vl bf : Int → Int} {wi : Int} (hB : MomAt G w r t9 s9 pl n pw vl bf) (hS : Srt n pw) (hw : 0 ≤ wi ∧ wi < 200) : MG G l yX2_changesWire wsX2_changesWire 5 200 (0) (0) [.ref r, .int (iI wi)] w (pI (fun (x : Int) (w' : Wd) => BP x (∃ j, 0 ≤ j ∧ j < n ∧ pw j / 64 = wi) ∧ w' = w)) := by
  refine MG.of (cc := cX2_changesWire) (nL := 3) (ret := (some .boolean)) (ll := [some (.ref r), some (.int (iI wi)), none]) (by decide) rfl (Nat.le_of_ble_eq_true rfl) rfl ?_
  intro p e s m args below meth c C
  have hts := C.2.2.2.2.1
  have g21 : GetF G s m args 21 5 2 := getF_of C 5 2 (T := TX2) (N := 4) (Cn := RX2) (ref := "TraceBook$Moment") rfl (by decide) (fun _ h => List.mem_cons_of_mem _ (List.mem_append_left _ (List.mem_append_left _ (List.mem_append_right _ (h))))) (List.mem_of_getElem? (i := 1) rfl) (fun _ h => h)
  have g43 : GetN G s m args 43 4 0 := getN_of C 4 0 (T := TX1) (N := 4) (Cn := RX1) (ref := "TraceBook$Change") rfl (by decide) (fun _ h => List.mem_cons_of_mem _ (List.mem_append_left _ (List.mem_append_right _ (h)))) (List.mem_of_getElem? (i := 12) rfl) (fun _ h => h)
  refine poI (P := fun PO => V G p l e _ s m args below meth c (MQW G below args s _ _ (pI PO)) w 0 0 0 _ []) (fun PO hPO => ?_)
  obtain ⟨lr, L, h1, hL, hC⟩ := hB
  have hn0 := hL.rg
  refine v_aload_n C dX2_changesWire_0 rfl ?_
  refine v_iload_n C dX2_changesWire_1 rfl ?_
  refine v_iconst C dX2_changesWire_2 ?_
  refine v_callVi C (q := (RX2, TX2, 4)) (As := [_, _]) (rest := []) (c_X2_indexFor (el := 0) ⟨lr, L, h1, hL, hC⟩ hS hw ⟨by omega, by omega⟩) (cwV 2 hts gX2_changesWire_X2_indexFor rfl rfl rfl (by decide +kernel) ⟨Nat.le_of_ble_eq_true rfl, Nat.le_of_ble_eq_true rfl⟩) (h1) rfl rfl rfl (Nat.le_of_ble_eq_true rfl) dX2_changesWire_3 (by dsimp only; omega) (by dsimp only; omega) (fun x_3 w hp => ?_)
  obtain ⟨hi3, hlo3, hhi3, rfl⟩ := hp
  refine v_wide (k' := 0) (z' := 0) (Nat.le_refl _) (Nat.le_refl _) ?_
  refine v_istore_n C dX2_changesWire_6 bsl_3_2 (by decide) rfl ?_
  refine v_iload_n C dX2_changesWire_7 rfl ?_
  refine v_aload_n C dX2_changesWire_8 rfl ?_
  refine v_getf C g21 h1 rfl dX2_changesWire_9 ?_
  refine v_callVi C (q := (RJx4a65c, TJx4a65c, 3)) (As := []) (rest := [_]) (c_Jx4a65c_size_8abf5 hL) (cwV 0 hts gX2_changesWire_Jx4a65c_size_8abf5 rfl rfl rfl (by decide +kernel) ⟨Nat.le_of_ble_eq_true rfl, Nat.le_of_ble_eq_true rfl⟩) (hL.obj.choose_spec) rfl rfl rfl (Nat.le_of_ble_eq_true rfl) dX2_changesWire_12 (by dsimp only; omega) (by dsimp only; omega) (fun x_12 w hp => ?_)
  obtain ⟨hx_12, rfl⟩ := hp
  refine v_wide (k' := 0) (z' := 0) (Nat.le_refl _) (Nat.le_refl _) ?_
  refine v_icmp_ge C (⟨by omega, by omega⟩) (⟨by omega, by omega⟩) (tgt := 40) dX2_changesWire_15 (by decide) (fun c_15 => ?_) (fun c_15 => ?_)
  · refine v_iconst C dX2_changesWire_40 ?_
    exact v_zret C rfl (by omega) dX2_changesWire_41 (by omega) (by omega) (hPO _ _ ⟨Or.inr ⟨rfl, fun ⟨j, a, b, q⟩ => by
        have := hlo3 j a (by omega)
        omega⟩, rfl⟩)
  · refine v_aload_n C dX2_changesWire_18 rfl ?_
    refine v_getf C g21 h1 rfl dX2_changesWire_19 ?_
    refine v_iload_n C dX2_changesWire_22 rfl ?_
    refine v_callVr C (q := (RJx4a65c, TJx4a65c, 3)) (As := [_]) (rest := []) (c_Jx4a65c_get_915e3 hL (i := x_3) ⟨by omega, by omega⟩) (cwV 1 hts gX2_changesWire_Jx4a65c_get_915e3 rfl rfl rfl (by decide +kernel) ⟨Nat.le_of_ble_eq_true rfl, Nat.le_of_ble_eq_true rfl⟩) (hL.obj.choose_spec) rfl rfl rfl (Nat.le_of_ble_eq_true rfl) dX2_changesWire_23 (by dsimp only; omega) (by dsimp only; omega) (fun x_23 w hp => ?_)
    obtain ⟨rfl, rfl⟩ := hp
    refine v_wide (k' := 0) (z' := 0) (Nat.le_refl _) (Nat.le_refl _) ?_
    refine v_castY C ((hC x_3 (by omega) (by omega))) rfl (List.mem_of_getElem? (i := 2) rfl) rfl dX2_changesWire_26 ?_
    refine v_getN C g43 (hC x_3 (by omega) (by omega)) rfl dX2_changesWire_29 ?_
    have hr3 := hS.1 x_3 (by omega) (by omega)
    refine v_iload_n C dX2_changesWire_32 rfl ?_
    refine v_icmp_ne C (⟨by omega, by omega⟩) (⟨by omega, by omega⟩) (tgt := 40) dX2_changesWire_33 (by decide) (fun c_33 => ?_) (fun c_33 => ?_)
    · refine v_iconst C dX2_changesWire_40 ?_
      exact v_zret C rfl (by omega) dX2_changesWire_41 (by omega) (by omega) (hPO _ _ ⟨Or.inr ⟨rfl, fun ⟨j, a, b, q⟩ => by
          have h5 : ¬ j < x_3 := fun g => by have := hlo3 j a g; omega
          have h6 : x_3 = j ∨ x_3 < j := by omega
          rcases h6 with rfl | h6
          · exact c_33 q
          · have := hS.2 x_3 j hi3.1 h6 b
            have := hhi3 (by omega)
            omega⟩, rfl⟩)
    · refine v_iconst C dX2_changesWire_36 ?_
      refine v_goto C (tgt := 41) dX2_changesWire_37 (by decide) ?_
      exact v_zret C rfl (by omega) dX2_changesWire_41 (by omega) (by omega) (hPO _ _ ⟨Or.inl ⟨rfl, x_3, hi3.1, by omega, by omega⟩, rfl⟩)
set_option maxRecDepth 100000 in
set_option maxHeartbeats 400000 in
theorem c_X2_valueBehind {G : GG} {l : Launch} {w : Wd} {r : Nat} {t9 s9 pl n : Int} {pw vl bf : Int → Int} {wi el : Int} {b0 : Int} (hB : MomAt G w r t9 s9 pl n pw vl bf) (hS : Srt n pw) (hw : 0 ≤ wi ∧ wi < 200) (he : 0 ≤ el ∧ el < 64) : MG G l yX2_valueBehind wsX2_valueBehind 5 200 (0) (0) [.ref r, .int (iI wi), .int (iI el), .int (iI b0)] w (pI (fun (x : Int) (w' : Wd) => ((∃ j, (0 ≤ j ∧ j < n) ∧ pw j = (64 * wi + el) ∧ x = vl j) ∨ ((∀ j, 0 ≤ j → j < n → pw j ≠ (64 * wi + el)) ∧ x = b0)) ∧ w' = w)) := by
  refine MG.of (cc := cX2_valueBehind) (nL := 5) (ret := (some .int)) (ll := [some (.ref r), some (.int (iI wi)), some (.int (iI el)), some (.int (iI b0)), none]) (by decide) rfl (Nat.le_of_ble_eq_true rfl) rfl ?_
  intro p e s m args below meth c C
  have hts := C.2.2.2.2.1
  have g21 : GetF G s m args 21 5 2 := getF_of C 5 2 (T := TX2) (N := 4) (Cn := RX2) (ref := "TraceBook$Moment") rfl (by decide) (fun _ h => List.mem_cons_of_mem _ (List.mem_append_left _ (List.mem_append_left _ (List.mem_append_right _ (h))))) (List.mem_of_getElem? (i := 1) rfl) (fun _ h => h)
  have g50 : GetN G s m args 50 4 2 := getN_of C 4 2 (T := TX1) (N := 4) (Cn := RX1) (ref := "TraceBook$Change") rfl (by decide) (fun _ h => List.mem_cons_of_mem _ (List.mem_append_left _ (List.mem_append_right _ (h)))) (List.mem_of_getElem? (i := 13) rfl) (fun _ h => h)
  refine poI (P := fun PO => V G p l e _ s m args below meth c (MQW G below args s _ _ (pI PO)) w 0 0 0 _ []) (fun PO hPO => ?_)
  obtain ⟨lr, L, h1, hL, hC⟩ := hB
  have hn0 := hL.rg
  refine v_aload_n C dX2_valueBehind_0 rfl ?_
  refine v_iload_n C dX2_valueBehind_1 rfl ?_
  refine v_iload_n C dX2_valueBehind_2 rfl ?_
  refine v_callVi C (q := (RX2, TX2, 4)) (As := [_, _]) (rest := []) (c_X2_indexFor (el := el) ⟨lr, L, h1, hL, hC⟩ hS hw he) (cwV 2 hts gX2_valueBehind_X2_indexFor rfl rfl rfl (by decide +kernel) ⟨Nat.le_of_ble_eq_true rfl, Nat.le_of_ble_eq_true rfl⟩) (h1) rfl rfl rfl (Nat.le_of_ble_eq_true rfl) dX2_valueBehind_3 (by dsimp only; omega) (by dsimp only; omega) (fun x_3 w hp => ?_)
  obtain ⟨hi3, hlo3, hhi3, rfl⟩ := hp
  refine v_wide (k' := 0) (z' := 0) (Nat.le_refl _) (Nat.le_refl _) ?_
  refine v_istore C dX2_valueBehind_6 bsl_5_4 (by decide) rfl ?_
  refine v_aload_n C dX2_valueBehind_8 rfl ?_
  refine v_iload C dX2_valueBehind_9 rfl ?_
  refine v_iload_n C dX2_valueBehind_11 rfl ?_
  refine v_iload_n C dX2_valueBehind_12 rfl ?_
  refine v_callVi C (q := (RX2, TX2, 4)) (As := [_, _, _]) (rest := []) (c_X2_isChangeOf ⟨lr, L, h1, hL, hC⟩ hS hi3 hw he) (cwV 3 hts gX2_valueBehind_X2_isChangeOf rfl rfl rfl (by decide +kernel) ⟨Nat.le_of_ble_eq_true rfl, Nat.le_of_ble_eq_true rfl⟩) (h1) rfl rfl rfl (Nat.le_of_ble_eq_true rfl) dX2_valueBehind_13 (by dsimp only; omega) (by dsimp only; omega) (fun x_13 w hp => ?_)
  obtain ⟨hx_13, rfl⟩ := hp
  refine v_wide (k' := 0) (z' := 0) (Nat.le_refl _) (Nat.le_refl _) ?_
  refine v_if_eq C (hx_13.r32) (tgt := 37) dX2_valueBehind_16 (by decide) (fun c_16 => ?_) (fun c_16 => ?_)
  · refine v_iload_n C dX2_valueBehind_37 rfl ?_
    exact v_iret C rfl dX2_valueBehind_38 (by omega) (by omega) (hPO _ _ ⟨Or.inr ⟨fun j a b => by
        by_cases q : j < x_3
        · have := hlo3 j a q; omega
        · have := hS.hi hhi3 (hx_13.z c_16) hi3.1 j (by omega) b; omega, rfl⟩, rfl⟩)
  · have hz := hx_13.nz c_16
    refine v_aload_n C dX2_valueBehind_19 rfl ?_
    refine v_getf C g21 h1 rfl dX2_valueBehind_20 ?_
    refine v_iload C dX2_valueBehind_23 rfl ?_
    refine v_callVr C (q := (RJx4a65c, TJx4a65c, 3)) (As := [_]) (rest := []) (c_Jx4a65c_get_915e3 hL (i := x_3) ⟨by omega, by omega⟩) (cwV 1 hts gX2_valueBehind_Jx4a65c_get_915e3 rfl rfl rfl (by decide +kernel) ⟨Nat.le_of_ble_eq_true rfl, Nat.le_of_ble_eq_true rfl⟩) (hL.obj.choose_spec) rfl rfl rfl (Nat.le_of_ble_eq_true rfl) dX2_valueBehind_25 (by dsimp only; omega) (by dsimp only; omega) (fun x_25 w hp => ?_)
    obtain ⟨rfl, rfl⟩ := hp
    refine v_wide (k' := 0) (z' := 0) (Nat.le_refl _) (Nat.le_refl _) ?_
    refine v_castY C ((hC x_3 (by omega) (by omega))) rfl (List.mem_of_getElem? (i := 2) rfl) rfl dX2_valueBehind_28 ?_
    refine v_getN C g50 (hC x_3 (by omega) (by omega)) rfl dX2_valueBehind_31 ?_
    refine v_goto C (tgt := 38) dX2_valueBehind_34 (by decide) ?_
    exact v_iret C rfl dX2_valueBehind_38 (by omega) (by omega) (hPO _ _ ⟨Or.inl ⟨x_3, ⟨by omega, by omega⟩, hz.2, rfl⟩, rfl⟩)
set_option maxRecDepth 100000 in
set_option maxHeartbeats 400000 in
theorem c_X2_put {G : GG} {l : Launch} {w : Wd} {r : Nat} {t9 s9 pl n : Int} {pw vl bf : Int → Int} {wi el : Int} {v b0 : Int} (hB : MomAt G w r t9 s9 pl n pw vl bf) (hS : Srt n pw) (hw : 0 ≤ wi ∧ wi < 200) (he : 0 ≤ el ∧ el < 64) (hn : n ≤ 10000000) (hv : R32 v) (hb0 : R32 b0) (hV : ∀ j, 0 ≤ j → j < n → R32 (vl j)) : MG G l yX2_put wsX2_put 8 320 (2) ((n + n / 2 + 14).toNat) [.ref r, .int (iI wi), .int (iI el), .int (iI v), .int (iI b0)] w (pI (fun (x : Int) (w' : Wd) => ∃ n2 pw2 vl2 bf2, MomAt G w' r t9 s9 pl n2 pw2 vl2 bf2 ∧ PutR n pw vl bf (64 * wi + el) v b0 x n2 pw2 vl2 bf2 ∧ Fr (fun t => t = 101 + 4 * r ∨ t = 102 + 4 * r ∨ t = 103 + 4 * r ∨ t = 0) w w')) := by
  refine MG.of (cc := cX2_put) (nL := 8) (ret := (some .boolean)) (ll := [some (.ref r), some (.int (iI wi)), some (.int (iI el)), some (.int (iI v)), some (.int (iI b0)), none, none, none]) (by decide) rfl (Nat.le_of_ble_eq_true rfl) rfl ?_
  intro p e s m args below meth c C
  have hts := C.2.2.2.2.1
  have g21 : GetF G s m args 21 5 2 := getF_of C 5 2 (T := TX2) (N := 4) (Cn := RX2) (ref := "TraceBook$Moment") rfl (by decide) (fun _ h => List.mem_cons_of_mem _ (List.mem_append_left _ (List.mem_append_left _ (List.mem_append_right _ (h))))) (List.mem_of_getElem? (i := 1) rfl) (fun _ h => h)
  have g50 : GetN G s m args 50 4 2 := getN_of C 4 2 (T := TX1) (N := 4) (Cn := RX1) (ref := "TraceBook$Change") rfl (by decide) (fun _ h => List.mem_cons_of_mem _ (List.mem_append_left _ (List.mem_append_right _ (h)))) (List.mem_of_getElem? (i := 13) rfl) (fun _ h => h)
  refine poI (P := fun PO => V G p l e _ s m args below meth c (MQW G below args s _ _ (pI PO)) w 0 0 0 _ []) (fun PO hPO => ?_)
  obtain ⟨w0, hw0⟩ : ∃ z, z = w := ⟨_, rfl⟩
  rw [← hw0] at hPO
  have hF : Fr (fun t => t = 101 + 4 * r ∨ t = 102 + 4 * r ∨ t = 103 + 4 * r ∨ t = 0) w0 w := by rw [hw0]; exact Fr.rf
  obtain ⟨lr, L, h1, hL, hC⟩ := hB
  have hn0 := hL.rg
  refine v_aload_n C dX2_put_0 rfl ?_
  refine v_iload_n C dX2_put_1 rfl ?_
  refine v_iload_n C dX2_put_2 rfl ?_
  refine v_callVi C (q := (RX2, TX2, 4)) (As := [_, _]) (rest := []) (c_X2_indexFor (el := el) ⟨lr, L, h1, hL, hC⟩ hS hw he) (cwV 2 hts gX2_put_X2_indexFor rfl rfl rfl (by decide +kernel) ⟨Nat.le_of_ble_eq_true rfl, Nat.le_of_ble_eq_true rfl⟩) (h1) rfl rfl rfl (Nat.le_of_ble_eq_true rfl) dX2_put_3 (by dsimp only; omega) (by dsimp only; omega) (fun x_3 w hp => ?_)
  obtain ⟨hi3, hlo3, hhi3, rfl⟩ := hp
  refine v_istore C dX2_put_6 bsl_8_5 (by decide) rfl ?_
  refine v_aload_n C dX2_put_8 rfl ?_
  refine v_iload C dX2_put_9 rfl ?_
  refine v_iload_n C dX2_put_11 rfl ?_
  refine v_iload_n C dX2_put_12 rfl ?_
  refine v_callVi C (q := (RX2, TX2, 4)) (As := [_, _, _]) (rest := []) (c_X2_isChangeOf ⟨lr, L, h1, hL, hC⟩ hS hi3 hw he) (cwV 3 hts gX2_put_X2_isChangeOf rfl rfl rfl (by decide +kernel) ⟨Nat.le_of_ble_eq_true rfl, Nat.le_of_ble_eq_true rfl⟩) (h1) rfl rfl rfl (Nat.le_of_ble_eq_true rfl) dX2_put_13 (by dsimp only; omega) (by dsimp only; omega) (fun x_13 w hp => ?_)
  obtain ⟨hx_13, rfl⟩ := hp
  refine v_istore C dX2_put_16 bsl_8_6 (by decide) rfl ?_
  refine v_iload C dX2_put_18 rfl ?_
  refine v_if_eq C (hx_13.r32) (tgt := 41) dX2_put_20 (by decide) (fun c_20 => ?_) (fun c_20 => ?_)
  · have hz := hx_13.z c_20
    refine v_iload C dX2_put_41 rfl ?_
    refine v_istore C dX2_put_43 bsl_8_7 (by decide) rfl ?_
    refine v_iload_n C dX2_put_45 rfl ?_
    refine v_iload C dX2_put_46 rfl ?_
    refine v_icmp_ne C (⟨by omega, by omega⟩) (⟨by omega, by omega⟩) (tgt := 53) dX2_put_48 (by decide) (fun c_48 => ?_) (fun c_48 => ?_)
    · refine v_iload C dX2_put_53 rfl ?_
      refine v_if_ne C (hx_13.r32) (tgt := 82) dX2_put_55 (by decide) (fun c_55 => ?_) (fun c_55 => ?_)
      · exact absurd c_55 (by omega)
      · refine v_aload_n C dX2_put_58 rfl ?_
        refine v_getf C g21 h1 rfl dX2_put_59 ?_
        refine v_iload C dX2_put_62 rfl ?_
        refine v_new C (ci := 4) (T := TX1) (N := 4) (Cn := RX1) (fs := [.int (iI 0), .int (iI 0), .int (iI 0), .int (iI 0)]) (103 + 4 * r) tyX1 tyX1_ok rfl (fun _ h => List.mem_cons_of_mem _ (List.mem_append_left _ (List.mem_append_right _ (h)))) (List.mem_of_getElem? (i := 2) rfl) (List.mem_of_getElem? (i := 4) rfl) (List.mem_of_getElem? (i := 5) rfl) (fun j hj => by rcases (by omega : j = 0 ∨ j = 1 ∨ j = 2 ∨ j = 3) with rfl | rfl | rfl | rfl <;> rfl) (by dsimp only; omega) (by dsimp only; omega) dX2_put_64 (fun a64 ha64 => ?_)
        refine v_fresh ha64 (fun w h64 hF64 hE64 => ?_)
        refine v_dup C rfl dX2_put_67 ?_
        refine v_iload_n C dX2_put_68 rfl ?_
        refine v_iload_n C dX2_put_69 rfl ?_
        refine v_iload_n C dX2_put_70 rfl ?_
        refine v_iload C dX2_put_71 rfl ?_
        refine v_callI C (ret2 := none) (b := _) (t := 0) (ci := 0) (fs := []) (q := (RX7, TX7, 33)) (As := [_, _, _, _]) (rest := [_, _, _]) (c_X1_init h64) (cwI 4 hts gX2_put_X1_init rfl rfl rfl (hts _ (List.mem_of_getElem? (i := 5) rfl)) (hts _ (List.mem_of_getElem? (i := 48) rfl)) (hts _ (List.mem_of_getElem? (i := 49) rfl)) rfl (by decide +kernel) ⟨Nat.le_of_ble_eq_true rfl, Nat.le_of_ble_eq_true rfl⟩) rfl rfl (Nat.le_of_ble_eq_true rfl) dX2_put_73 (by dsimp only; omega) (by dsimp only; omega) (fun w hp => ?_)
        obtain ⟨h64, hE65⟩ := hp
        have hF9 := fr_new2 ha64 hE64 hE65
        have h1 := hF9 _ _ _ (fun h9 => h9) h1
        have hL := hL.fr hF9 (fun h9 => h9) (fun h9 => h9)
        have hC := hC.fr hF9 (fun h9 => h9)
        have hF := hF.tr (hF9.mono (fun t h9 => h9.elim))
        refine v_callVv C (q := (RJx4a65c, TJx4a65c, 3)) (As := [_, _]) (rest := []) (c_Jx4a65c_add_7a177 hL hn hi3 hC.mem (fun t h => by have h7 : t = 103 + 4 * r := h; exact ⟨by omega, by omega, by omega⟩) h64 rfl (by decide) ⟨by omega, by omega, by omega, by omega⟩) (cwV 2 hts gX2_put_Jx4a65c_add_7a177 rfl rfl rfl (by decide +kernel) ⟨Nat.le_of_ble_eq_true rfl, Nat.le_of_ble_eq_true rfl⟩) (hL.obj.choose_spec) rfl rfl rfl (Nat.le_of_ble_eq_true rfl) dX2_put_76 (by dsimp only; omega) (by dsimp only; omega) (fun w hp => ?_)
        obtain ⟨hL, hF9⟩ := hp
        have h1 := hF9 _ _ _ (fun h9 => by have h8 : 100 + 4 * r = 101 + 4 * r ∨ 100 + 4 * r = 101 + 4 * r + 1 ∨ 100 + 4 * r = 0 := h9; omega) h1
        have hC := hC.fr hF9 (fun h9 => by have h8 : 103 + 4 * r = 101 + 4 * r ∨ 103 + 4 * r = 101 + 4 * r + 1 ∨ 103 + 4 * r = 0 := h9; omega)
        have h64 := hF9 _ _ _ (fun h9 => by have h8 : 103 + 4 * r = 101 + 4 * r ∨ 103 + 4 * r = 101 + 4 * r + 1 ∨ 103 + 4 * r = 0 := h9; omega) h64
        have hF := hF.tr (hF9.mono (fun t h9 => by have h8 : t = 101 + 4 * r ∨ t = 101 + 4 * r + 1 ∨ t = 0 := h9; show t = 101 + 4 * r ∨ t = 102 + 4 * r ∨ t = 103 + 4 * r ∨ t = 0; omega))
        refine v_goto C (tgt := 123) dX2_put_79 (by decide) ?_
        refine v_iconst C dX2_put_123 ?_
        exact v_zret C rfl (by omega) dX2_put_124 (by omega) (by omega) (hPO _ _ ⟨n + 1, _, _, _, ⟨lr, _, h1, hL, hC.ins (by rw [chV_of hw.1 he]; exact h64) hi3⟩, Or.inr ⟨x_3, hi3, hlo3, (hS.hi hhi3 hz hi3.1), Or.inr ⟨by omega, rfl, rfl, rfl, rfl, rfl⟩⟩, hF⟩)
    · refine v_iconst C dX2_put_51 ?_
      exact v_zret C rfl (by omega) dX2_put_52 (by omega) (by omega) (hPO _ _ ⟨n, pw, vl, bf, ⟨lr, L, h1, hL, hC⟩, Or.inr ⟨x_3, hi3, hlo3, (hS.hi hhi3 hz hi3.1), Or.inl ⟨by omega, rfl, rfl, rfl, rfl, rfl⟩⟩, hF⟩)
  · have hz := hx_13.nz c_20
    have hr9 := hV x_3 (by omega) (by omega)
    refine v_aload_n C dX2_put_23 rfl ?_
    refine v_getf C g21 h1 rfl dX2_put_24 ?_
    refine v_iload C dX2_put_27 rfl ?_
    refine v_callVr C (q := (RJx4a65c, TJx4a65c, 3)) (As := [_]) (rest := []) (c_Jx4a65c_get_915e3 hL (i := x_3) ⟨by omega, by omega⟩) (cwV 1 hts gX2_put_Jx4a65c_get_915e3 rfl rfl rfl (by decide +kernel) ⟨Nat.le_of_ble_eq_true rfl, Nat.le_of_ble_eq_true rfl⟩) (hL.obj.choose_spec) rfl rfl rfl (Nat.le_of_ble_eq_true rfl) dX2_put_29 (by dsimp only; omega) (by dsimp only; omega) (fun x_29 w hp => ?_)
    obtain ⟨rfl, rfl⟩ := hp
    refine v_castY C ((hC x_3 (by omega) (by omega))) rfl (List.mem_of_getElem? (i := 2) rfl) rfl dX2_put_32 ?_
    refine v_getN C g50 (hC x_3 (by omega) (by omega)) rfl dX2_put_35 ?_
    refine v_goto C (tgt := 43) dX2_put_38 (by decide) ?_
    refine v_istore C dX2_put_43 bsl_8_7 (by decide) rfl ?_
    refine v_iload_n C dX2_put_45 rfl ?_
    refine v_iload C dX2_put_46 rfl ?_
    refine v_icmp_ne C (⟨by omega, by omega⟩) (⟨by omega, by omega⟩) (tgt := 53) dX2_put_48 (by decide) (fun c_48 => ?_) (fun c_48 => ?_)
    · refine v_iload C dX2_put_53 rfl ?_
      refine v_if_ne C (hx_13.r32) (tgt := 82) dX2_put_55 (by decide) (fun c_55 => ?_) (fun c_55 => ?_)
      · refine v_iload_n C dX2_put_82 rfl ?_
        refine v_iload C dX2_put_83 rfl ?_
        refine v_icmp_ne C (⟨by omega, by omega⟩) (⟨by omega, by omega⟩) (tgt := 101) dX2_put_85 (by decide) (fun c_85 => ?_) (fun c_85 => ?_)
        · refine v_aload_n C dX2_put_101 rfl ?_
          refine v_getf C g21 h1 rfl dX2_put_102 ?_
          refine v_iload C dX2_put_105 rfl ?_
          refine v_new C (ci := 4) (T := TX1) (N := 4) (Cn := RX1) (fs := [.int (iI 0), .int (iI 0), .int (iI 0), .int (iI 0)]) (103 + 4 * r) tyX1 tyX1_ok rfl (fun _ h => List.mem_cons_of_mem _ (List.mem_append_left _ (List.mem_append_right _ (h)))) (List.mem_of_getElem? (i := 2) rfl) (List.mem_of_getElem? (i := 4) rfl) (List.mem_of_getElem? (i := 5) rfl) (fun j hj => by rcases (by omega : j = 0 ∨ j = 1 ∨ j = 2 ∨ j = 3) with rfl | rfl | rfl | rfl <;> rfl) (by dsimp only; omega) (by dsimp only; omega) dX2_put_107 (fun a107 ha107 => ?_)
          refine v_fresh ha107 (fun w h107 hF107 hE107 => ?_)
          refine v_dup C rfl dX2_put_110 ?_
          refine v_iload_n C dX2_put_111 rfl ?_
          refine v_iload_n C dX2_put_112 rfl ?_
          refine v_iload_n C dX2_put_113 rfl ?_
          refine v_iload C dX2_put_114 rfl ?_
          refine v_callI C (ret2 := none) (b := _) (t := 0) (ci := 0) (fs := []) (q := (RX7, TX7, 33)) (As := [_, _, _, _]) (rest := [_, _, _]) (c_X1_init h107) (cwI 4 hts gX2_put_X1_init rfl rfl rfl (hts _ (List.mem_of_getElem? (i := 5) rfl)) (hts _ (List.mem_of_getElem? (i := 48) rfl)) (hts _ (List.mem_of_getElem? (i := 49) rfl)) rfl (by decide +kernel) ⟨Nat.le_of_ble_eq_true rfl, Nat.le_of_ble_eq_true rfl⟩) rfl rfl (Nat.le_of_ble_eq_true rfl) dX2_put_116 (by dsimp only; omega) (by dsimp only; omega) (fun w hp => ?_)
          obtain ⟨h107, hE65⟩ := hp
          have hF9 := fr_new2 ha107 hE107 hE65
          have h1 := hF9 _ _ _ (fun h9 => h9) h1
          have hL := hL.fr hF9 (fun h9 => h9) (fun h9 => h9)
          have hC := hC.fr hF9 (fun h9 => h9)
          have hF := hF.tr (hF9.mono (fun t h9 => h9.elim))
          refine v_callVr C (q := (RJx4a65c, TJx4a65c, 3)) (As := [_, _]) (rest := []) (c_Jx4a65c_set_bcc79 hL ⟨by omega, by omega⟩ h107 rfl (by decide) ⟨by omega, by omega, by omega, by omega⟩) (cwV 2 hts gX2_put_Jx4a65c_set_bcc79 rfl rfl rfl (by decide +kernel) ⟨Nat.le_of_ble_eq_true rfl, Nat.le_of_ble_eq_true rfl⟩) (hL.obj.choose_spec) rfl rfl rfl (Nat.le_of_ble_eq_true rfl) dX2_put_119 (by dsimp only; omega) (by dsimp only; omega) (fun x_119 w hp => ?_)
          obtain ⟨rfl, hL, hF9⟩ := hp
          have h1 := hF9 _ _ _ (fun h9 => by have h8 : 100 + 4 * r = 101 + 4 * r ∨ 100 + 4 * r = 101 + 4 * r + 1 ∨ 100 + 4 * r = 0 := h9; omega) h1
          have hC := hC.fr hF9 (fun h9 => by have h8 : 103 + 4 * r = 101 + 4 * r ∨ 103 + 4 * r = 101 + 4 * r + 1 ∨ 103 + 4 * r = 0 := h9; omega)
          have h107 := hF9 _ _ _ (fun h9 => by have h8 : 103 + 4 * r = 101 + 4 * r ∨ 103 + 4 * r = 101 + 4 * r + 1 ∨ 103 + 4 * r = 0 := h9; omega) h107
          have hF := hF.tr (hF9.mono (fun t h9 => by have h8 : t = 101 + 4 * r ∨ t = 101 + 4 * r + 1 ∨ t = 0 := h9; show t = 101 + 4 * r ∨ t = 102 + 4 * r ∨ t = 103 + 4 * r ∨ t = 0; omega))
          refine v_pop C rfl dX2_put_122 ?_
          refine v_iconst C dX2_put_123 ?_
          exact v_zret C rfl (by omega) dX2_put_124 (by omega) (by omega) (hPO _ _ ⟨n, _, _, _, ⟨lr, _, h1, hL, hC.set (by rw [hz.2, chV_of hw.1 he]; exact h107)⟩, Or.inl ⟨x_3, ⟨by omega, by omega⟩, hz.2, Or.inr (Or.inr ⟨by omega, by omega, rfl, rfl, rfl, rfl, rfl⟩)⟩, hF⟩)
        · refine v_aload_n C dX2_put_88 rfl ?_
          refine v_getf C g21 h1 rfl dX2_put_89 ?_
          refine v_iload C dX2_put_92 rfl ?_
          refine v_callVr C (q := (RJx4a65c, TJx4a65c, 3)) (As := [_]) (rest := []) (c_Jx4a65c_remove_915e3 hL ⟨by omega, by omega⟩ (by omega) hC.mem (fun t h => by have h7 : t = 103 + 4 * r := h; exact ⟨by omega, by omega, by omega⟩) (q0 := (RX1, TX1, 4)) rfl (by decide)) (cwV 1 hts gX2_put_Jx4a65c_remove_915e3 rfl rfl rfl (by decide +kernel) ⟨Nat.le_of_ble_eq_true rfl, Nat.le_of_ble_eq_true rfl⟩) (hL.obj.choose_spec) rfl rfl rfl (Nat.le_of_ble_eq_true rfl) dX2_put_94 (by dsimp only; omega) (by dsimp only; omega) (fun x_94 w hp => ?_)
          obtain ⟨rfl, hL, hF9⟩ := hp
          have h1 := hF9 _ _ _ (fun h9 => by have h8 : 100 + 4 * r = 101 + 4 * r ∨ 100 + 4 * r = 101 + 4 * r + 1 ∨ 100 + 4 * r = 0 := h9; omega) h1
          have hC := hC.fr hF9 (fun h9 => by have h8 : 103 + 4 * r = 101 + 4 * r ∨ 103 + 4 * r = 101 + 4 * r + 1 ∨ 103 + 4 * r = 0 := h9; omega)
          have hF := hF.tr (hF9.mono (fun t h9 => by have h8 : t = 101 + 4 * r ∨ t = 101 + 4 * r + 1 ∨ t = 0 := h9; show t = 101 + 4 * r ∨ t = 102 + 4 * r ∨ t = 103 + 4 * r ∨ t = 0; omega))
          refine v_pop C rfl dX2_put_97 ?_
          refine v_goto C (tgt := 123) dX2_put_98 (by decide) ?_
          refine v_iconst C dX2_put_123 ?_
          exact v_zret C rfl (by omega) dX2_put_124 (by omega) (by omega) (hPO _ _ ⟨n - 1, _, _, _, ⟨lr, _, h1, hL, hC.del ⟨by omega, by omega⟩⟩, Or.inl ⟨x_3, ⟨by omega, by omega⟩, hz.2, Or.inr (Or.inl ⟨by omega, by omega, rfl, rfl, rfl, rfl, rfl⟩)⟩, hF⟩)
      · exact absurd c_55 (by omega)
    · refine v_iconst C dX2_put_51 ?_
      exact v_zret C rfl (by omega) dX2_put_52 (by omega) (by omega) (hPO _ _ ⟨n, pw, vl, bf, ⟨lr, L, h1, hL, hC⟩, Or.inl ⟨x_3, ⟨by omega, by omega⟩, hz.2, Or.inl ⟨by omega, rfl, rfl, rfl, rfl, rfl⟩⟩, hF⟩)
