theorem bsl_8_1 {x0 x1 x2 x3 x4 x5 x6 x7 : Option Value} {v : Value} : stL [x0, x1, x2, x3, x4, x5, x6, x7] 1 v = [x0, some v, x2, x3, x4, x5, x6, x7] := rfl
theorem bsl_8_2 {x0 x1 x2 x3 x4 x5 x6 x7 : Option Value} {v : Value} : stL [x0, x1, x2, x3, x4, x5, x6, x7] 2 v = [x0, x1, some v, x3, x4, x5, x6, x7] := rfl
theorem bsl_8_3 {x0 x1 x2 x3 x4 x5 x6 x7 : Option Value} {v : Value} : stL [x0, x1, x2, x3, x4, x5, x6, x7] 3 v = [x0, x1, x2, some v, x4, x5, x6, x7] := rfl
section LKB
variable {G : GG} {p : Program} {l : Launch} {e : Env} {s : State} {m : MethodId} {below : List Frame} {meth : Method} {c : Code} {nm9 : String}
theorem LI0 {w : Wd} {bk mo o wr tp ra rb : Nat} {ad : Nat → Nat} (hb : w bk = some (1, .inr (9, [.ref wr, .ref tp, .ref ra, .ref rb, .null, .null]))) (hW : WiresAt G w wr 0 (fun _ => 0)) (hT : BytesAt G w 4 tp 0 64 (fun _ => 0)) (hA : RowM G w 10 ra 64 64 [] (fun _ => 0)) (hS : SpR G w 20 rb 64 64) (hR : RefAt G mo ad w 0 0 0 0 0 0 0 0 0 0 0 0 0 0 0 (fun _ => 0) (fun _ => 0) (fun _ => 0) (fun _ => 0) (fun _ => 0) (fun _ => 0) (fun _ => 0) (fun _ => 0) (fun _ => 0) (fun _ => 0) (fun _ => 0) (fun _ => 0) (fun _ => 0) (fun _ => 0) (fun _ => 0) (fun _ => 0) (fun _ => 0) (fun _ => 0)) (ho : w o = some (7, .inl (gJ G, aJ 1 (fun _ => 0)))) : LI G w bk mo o 0 0 (fun _ => 0) 36 429192 :=
  LI.mk (a := 0) (lq := none) (oq := none) (capT := 64) (capA := 64) (capB := 64) (vcA := 64) (vcB := 64) (ML := []) (OL := []) (MA := fun _ => 0) (TA := 10) (TB := 20) ⟨hb, hW, hT, hA, hS, Or.inl rfl, Or.inl ⟨rfl, rfl⟩⟩
    ⟨Or.inl ⟨rfl, rfl⟩, ⟨by omega, by omega⟩, fun i h0 h1 => absurd h1 (by omega), trivial, trivial, ⟨by omega, by omega, by omega, by omega⟩, fun _ => ⟨rfl, rfl⟩, fun h => absurd rfl h, fun h => absurd rfl h, ⟨by omega, by omega⟩, fun q h0 h1 => absurd h1 (by omega), ⟨by decide, by decide⟩, ⟨by omega, by omega⟩⟩ hR
    ⟨⟨⟨rfl, rfl, rfl, rfl⟩, trivial, trivial, trivial, trivial, trivial, trivial, trivial, trivial⟩, rfl, Or.inl ⟨rfl, rfl⟩, Or.inl ⟨rfl, rfl⟩, fun _ _ => rfl⟩ ho ⟨by decide, by decide, ⟨by decide, by decide, by decide, by decide, by decide, by decide⟩, ⟨by decide, by decide, by decide, by decide⟩⟩
set_option maxRecDepth 100000 in
set_option maxHeartbeats 1000000 in
theorem law_all {b L : Nat} {xs : Nat → Int32} (C : Cx G p s m #[.ref b] meth c ⟨RL, nm9, ""⟩ cL_law 8 (some .boolean) wsL_law) (hfl : l.stackTraces = false) (hX : va_X b L xs s (gH G)) (hbN : b < gN G) (hL3 : L ≤ 3584) (hg : gN G = s.heap.size) : V G p l e room_1 s m #[.ref b] below meth c (lw_Z below #[.ref b] s) (fun _ => none) 0 0 0 [some (.ref b), none, none, none, none, none, none, none] [] := by
  have hts := C.2.2.2.2.1
  refine v_new C (ci := 9) (T := TX6) (N := 6) (Cn := RX6) (fs := [.null, .null, .null, .null, .null, .null]) 1 tyX6 tyX6_ok rfl inlX6 (List.mem_of_getElem? (i := 0) rfl) (List.mem_of_getElem? (i := 1) rfl) (List.mem_of_getElem? (i := 2) rfl) (fun j hj => by rcases (by omega : j = 0 ∨ j = 1 ∨ j = 2 ∨ j = 3 ∨ j = 4 ∨ j = 5) with rfl | rfl | rfl | rfl | rfl | rfl <;> rfl) (Nat.le_of_ble_eq_true rfl) (Nat.le_of_ble_eq_true rfl) dL_law_0 (fun bk hbk => ?_)
  refine v_fresh hbk (fun w h1 hF9 hE9 => ?_)
  refine v_dup C rfl dL_law_3 ?_
  refine v_callI C (ret2 := none) (b := _) (t := 0) (ci := 0) (fs := []) (q := (RX7, TX7, 33)) (As := []) (rest := [_]) (c_X6_init h1) (cwI 0 hts gL_law_X6_init rfl rfl rfl (hts _ (List.mem_of_getElem? (i := 2) rfl)) (hts _ (List.mem_of_getElem? (i := 8) rfl)) (hts _ (List.mem_of_getElem? (i := 9) rfl)) rfl (by decide +kernel) ⟨Nat.le_of_ble_eq_true rfl, Nat.le_of_ble_eq_true rfl⟩) rfl rfl (Nat.le_of_ble_eq_true rfl) dL_law_4 (Nat.le_of_ble_eq_true rfl) (Nat.le_of_ble_eq_true rfl) (fun w hp => ?_)
  obtain ⟨wr, tp, ra, rb, hb, hW, hT, hA, hS, -⟩ := hp
  refine v_astore_n C dL_law_7 bsl_8_1 (by decide) rfl ?_
  refine v_new C (ci := 10) (T := TX7) (N := 33) (Cn := RX7) (fs := [.int (iI 0), .null, .int (iI 0), .null, .null, .int (iI 0), .int (iI 0), .long (lI 0), .long (lI 0), .null, .null, .null, .int (iI 0), .null, .null, .null, .null, .int (iI 0), .null, .int (iI 0), .null, .int (iI 0), .int (iI 0), .int (iI 0), .int (iI 0), .null, .null, .null, .null, .int (iI 0), .null, .null, .int (iI 0)]) 30 tyX7 tyX7_ok rfl inlX7 (List.mem_of_getElem? (i := 3) rfl) (List.mem_of_getElem? (i := 4) rfl) (List.mem_of_getElem? (i := 5) rfl) (fun j hj => by rcases (by omega : j = 0 ∨ j = 1 ∨ j = 2 ∨ j = 3 ∨ j = 4 ∨ j = 5 ∨ j = 6 ∨ j = 7 ∨ j = 8 ∨ j = 9 ∨ j = 10 ∨ j = 11 ∨ j = 12 ∨ j = 13 ∨ j = 14 ∨ j = 15 ∨ j = 16 ∨ j = 17 ∨ j = 18 ∨ j = 19 ∨ j = 20 ∨ j = 21 ∨ j = 22 ∨ j = 23 ∨ j = 24 ∨ j = 25 ∨ j = 26 ∨ j = 27 ∨ j = 28 ∨ j = 29 ∨ j = 30 ∨ j = 31 ∨ j = 32) with rfl | rfl | rfl | rfl | rfl | rfl | rfl | rfl | rfl | rfl | rfl | rfl | rfl | rfl | rfl | rfl | rfl | rfl | rfl | rfl | rfl | rfl | rfl | rfl | rfl | rfl | rfl | rfl | rfl | rfl | rfl | rfl | rfl <;> rfl) (Nat.le_of_ble_eq_true rfl) (Nat.le_of_ble_eq_true rfl) dL_law_8 (fun mo hmo => ?_)
  refine v_fresh hmo (fun w h3 hF9 hE9 => ?_)
  have hb := hF9 _ _ _ (fun h9 => h9) hb
  have hW := hW.fr hF9 (fun h9 => h9) (fun h9 => h9)
  have hT := hT.fr hF9 (fun h9 => h9) (fun h9 => h9)
  have hA := hA.fr hF9 (fun t x y h9 => h9) (fun i x y t z u h9 => h9)
  have hS := hS.fr hF9 (fun t x y h9 => h9)
  refine v_dup C rfl dL_law_11 ?_
  refine v_callI C (ret2 := none) (b := _) (t := 0) (ci := 0) (fs := []) (q := (RX7, TX7, 33)) (As := []) (rest := [_]) (c_X7_init h3) (cwI 0 hts gL_law_X7_init rfl rfl rfl (hts _ (List.mem_of_getElem? (i := 5) rfl)) (hts _ (List.mem_of_getElem? (i := 70) rfl)) (hts _ (List.mem_of_getElem? (i := 71) rfl)) rfl (by decide +kernel) ⟨Nat.le_of_ble_eq_true rfl, Nat.le_of_ble_eq_true rfl⟩) rfl rfl (Nat.le_of_ble_eq_true rfl) dL_law_12 (Nat.le_of_ble_eq_true rfl) (Nat.le_of_ble_eq_true rfl) (fun w hp => ?_)
  obtain ⟨ad, hR, hF9⟩ := hp
  have hm : ∀ t, t < 30 → ¬ mT t := fun t h q => by
    have q : 30 ≤ t ∧ t < 70 := q
    omega
  have hb := hF9 _ _ _ (hm _ (by omega)) hb
  have hW := hW.fr hF9 (hm _ (by omega)) (hm _ (by omega))
  have hT := hT.fr hF9 (hm _ (by omega)) (hm _ (by omega))
  have hA := hA.fr hF9 (fun t x y => hm _ (by omega)) (fun i x y => absurd y (by show ¬ i < (0 : Int); omega))
  have hS := hS.fr hF9 (fun t x y => hm _ (by omega))
  refine v_astore_n C dL_law_15 bsl_8_2 (by decide) rfl ?_
  refine v_iconst C dL_law_16 ?_
  refine v_newJ C 7 (List.mem_of_getElem? (i := 6) rfl) (by decide) (by decide) (Nat.le_of_ble_eq_true rfl) (Nat.le_of_ble_eq_true rfl) dL_law_17 (fun o ho => ?_)
  refine v_fresh ho (fun w h5 hF9 hE9 => ?_)
  have hb := hF9 _ _ _ (fun h9 => h9) hb
  have hW := hW.fr hF9 (fun h9 => h9) (fun h9 => h9)
  have hT := hT.fr hF9 (fun h9 => h9) (fun h9 => h9)
  have hA := hA.fr hF9 (fun t x y h9 => h9) (fun i x y t z u h9 => h9)
  have hS := hS.fr hF9 (fun t x y h9 => h9)
  have hR := hR.cf hF9 (fun t h9 => h9.elim)
  refine v_astore_n C dL_law_19 bsl_8_3 (by decide) rfl ?_
  refine v_iconst C dL_law_20 ?_
  refine v_istore C dL_law_21 bsl_8_4 (by decide) rfl ?_
  refine v_wide (k' := 36) (z' := 429192) (Nat.le_of_ble_eq_true rfl) (Nat.le_of_ble_eq_true rfl) ?_
  exact law_loop C hfl hX hbN hL3 hg 3585 0 0 0 (fun _ => 0) w 36 429192 (by omega) (by omega) (by omega) (by decide) (LI0 hb hW hT hA hS hR h5)
end LKB
/-- the law, from its entry -/
theorem whole_start {p : Program} {e : Env} {s : State} {m : MethodId} {below : List Frame} {meth : Method} {c : Code} (l : Launch) (hflags : l.flags = flags0) {b L : Nat} {xs : Nat → Int32} (hL : L ≤ 3584) (C0 : lw_At p s m meth c b L xs) : W p l e room_1 s m #[Value.ref b] below meth c s.heap [] 0 0 (lw_Z below #[Value.ref b] s) (entryFrame m ([Value.ref b] : List Value).toArray 8) := by
  obtain ⟨G, hKK, hg, hH⟩ := kk_of C0
  obtain ⟨hx, hb, hr, hml, hown, hts, hX, hbl, hlocks, hgv⟩ := id C0
  have hfl : l.stackTraces = false := by
    unfold Launch.stackTraces
    rw [hflags]
    decide +kernel
  have C : Cx G p s m #[.ref b] meth c ⟨RL, meth.name, ""⟩ cL_law 8 (some .boolean) wsL_law := ⟨hx, hb, hml, hown, fun w h => hts w (wsL_law_in w h), hr, hlocks, hKK, rfl⟩
  have hl := lv_entry ([Value.ref b]) (n := 8) (Nat.le_of_ble_eq_true rfl)
  rw [lg_entry_eq]
  refine law_all C hfl (by rw [hH]; exact hX) (by rw [hg]; exact hbl) hL hg s.heap [] _ ⟨by rw [hg]; exact Nat.le_refl _, fun a _ => by rw [hH], fun a t e h => nomatch h⟩ (fun q h => nomatch h) ⟨by rw [hml]; exact hl.1, hl.2.1, fun i v hi => ?_⟩
  have hll : llOf [Value.ref b] 8 = [some (.ref b), none, none, none, none, none, none, none] := rfl
  rw [← hll] at hi
  have := llOf_spec [Value.ref b] 8 i 0 v hi
  rw [Nat.zero_add] at this
  exact hl.2.2 (i, v) this
