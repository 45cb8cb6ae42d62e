
/-- values with zeros behind them -/
def ext (f : Int → Int) (c : Int) : Int → Int := fun j => if 0 ≤ j ∧ j < c then f j else 0
theorem ext_in {f : Int → Int} {c j : Int} (h0 : 0 ≤ j) (h : j < c) : ext f c j = f j := if_pos ⟨h0, h⟩
theorem ext_out {f : Int → Int} {c j : Int} (h : ¬ (0 ≤ j ∧ j < c)) : ext f c j = 0 := if_neg h
def gv1 (c p : Int) : Int := if c ≤ p then (if p + 1 < 2 * c then 2 * c else p + 1) else c
def gvc : Int → List (Int × Int) → Int
  | c, [] => c
  | c, q :: l => gvc (gv1 c q.1) l
theorem gv1_b {c p : Int} (h : 64 ≤ c ∧ c ≤ 25600) (hp : 0 ≤ p ∧ p < 12800) : c ≤ gv1 c p ∧ p < gv1 c p ∧ gv1 c p ≤ 25600 := by
  unfold gv1
  by_cases q : c ≤ p
  · rw [if_pos q]
    by_cases q2 : p + 1 < 2 * c
    · rw [if_pos q2]; omega
    · rw [if_neg q2]; omega
  · rw [if_neg q]; omega
theorem gv1_max {c p : Int} (h : c ≤ p) : (p + 1 < 2 * c ∧ gv1 c p = 2 * c) ∨ (¬ p + 1 < 2 * c ∧ gv1 c p = p + 1) := by
  unfold gv1
  rw [if_pos h]
  by_cases q : p + 1 < 2 * c
  · rw [if_pos q]; exact Or.inl ⟨q, rfl⟩
  · rw [if_neg q]; exact Or.inr ⟨q, rfl⟩
theorem gvc_b : ∀ {L : List (Int × Int)} {c : Int}, (64 ≤ c ∧ c ≤ 25600) → (∀ q ∈ L, 0 ≤ q.1 ∧ q.1 < 12800) → c ≤ gvc c L ∧ gvc c L ≤ 25600
  | [], c, h, _ => ⟨Int.le_refl _, h.2⟩
  | q :: l, c, h, hq => by
    have h1 := gv1_b h (hq q List.mem_cons_self)
    have h2 := gvc_b (L := l) (c := gv1 c q.1) ⟨by omega, h1.2.2⟩ (fun x hx => hq x (List.mem_cons_of_mem _ hx))
    show c ≤ gvc (gv1 c q.1) l ∧ _
    exact ⟨by omega, h2.2⟩
theorem BytesAt.lenF {G : GG} {w : Wd} {T r : Nat} {len cap : Int} {b : Int → Int} (h : BytesAt G w T r len cap b) : ∃ kq, w r = some (T, .inr (3, [.ref kq, .int (iI len)])) := by
  obtain ⟨kq, f, q1, -⟩ := h
  exact ⟨kq, q1⟩
theorem Mem.upd {w w2 : Wd} {U : Nat → Prop} {ci : Nat} {n : Int} {L : Int → Nat} (h : Mem w U ci n L) {a t : Nat} {vs : List Value} (ha : w2 a = some (t, .inr (ci, vs))) (hE : ∀ b, b ≠ a → w2 b = w b) (hu : U t) : Mem w2 U ci n L := fun j x y => by
  by_cases q : L j = a
  · exact ⟨t, vs, hu, by rw [q]; exact ha⟩
  · obtain ⟨t5, vs5, u, e⟩ := h j x y
    exact ⟨t5, vs5, u, by rw [hE _ q]; exact e⟩
theorem srt_all {L : List (Int × Int)} (h : Srt L.length (pwL L)) : ∀ q ∈ L, 0 ≤ q.1 ∧ q.1 < 12800 := fun q hq => by
  obtain ⟨i, hi, e⟩ := List.getElem_of_mem hq
  have := h.1 (i : Int) (by omega) (by omega)
  unfold pwL at this
  rw [show ((i : Nat) : Int).toNat = i by omega, List.getElem?_eq_getElem hi, e] at this
  exact this
set_option maxRecDepth 100000 in
set_option maxHeartbeats 400000 in
theorem c_X4_keepValue {G : GG} {l : Launch} {w : Wd} {r : Nat} {T bt ml vk : Nat} {len cap n vcap : Int} {b vf : Int → Int} {M : Int → Nat} {tg ch : Nat} {pz v9 b0 : Int} (hB : RowR G w T r bt ml vk len cap b n M vcap vf) (hT : 0 < T ∧ T < 90) (hch : w ch = some (tg, .inr (4, chV pz v9 b0))) (htg : 100 ≤ tg) (hp : 0 ≤ pz ∧ pz < 12800) (hv : 0 ≤ v9 ∧ v9 ≤ 8) : MG G l yX4_keepValue wsX4_keepValue 3 120 (((gv1 vcap pz) - vcap).toNat) ((2 * ((gv1 vcap pz) - vcap)).toNat) [.ref r, .ref ch] w (pV (fun (w' : Wd) => ∃ vk2 f2, RowR G w' T r bt ml vk2 len cap b n M (gv1 vcap pz) f2 ∧ ext f2 (gv1 vcap pz) = upI (ext vf vcap) pz v9 ∧ Fr (fun t => t = T ∨ t = T + 5 ∨ t = 0) w w')) := by
  refine MG.of (cc := cX4_keepValue) (nL := 3) (ret := none) (ll := [some (.ref r), some (.ref ch), none]) (by decide) rfl (Nat.le_of_ble_eq_true rfl) rfl ?_
  intro p e s m args below meth c C
  have hts := C.2.2.2.2.1
  have g25 : GetF G s m args 25 7 2 := getF_of C 7 2 (T := TX4) (N := 3) (Cn := RX4) (ref := "TraceBook$Row") rfl (by decide) (fun _ h => List.mem_cons_of_mem _ (List.mem_append_right _ (h))) (List.mem_of_getElem? (i := 1) rfl) (fun _ h => h)
  have g121 : GetN G s m args 121 4 2 := getN_of C 4 2 (T := TX1) (N := 4) (Cn := RX1) (ref := "TraceBook$Change") rfl (by decide) (fun _ h => List.mem_cons_of_mem _ (List.mem_append_left _ (List.mem_append_right _ (h)))) (List.mem_of_getElem? (i := 26) rfl) (fun _ h => h)
  have g115 : GetN G s m args 115 4 0 := getN_of C 4 0 (T := TX1) (N := 4) (Cn := RX1) (ref := "TraceBook$Change") rfl (by decide) (fun _ h => List.mem_cons_of_mem _ (List.mem_append_left _ (List.mem_append_right _ (h)))) (List.mem_of_getElem? (i := 24) rfl) (fun _ h => h)
  have g118 : GetN G s m args 118 4 1 := getN_of C 4 1 (T := TX1) (N := 4) (Cn := RX1) (ref := "TraceBook$Change") rfl (by decide) (fun _ h => List.mem_cons_of_mem _ (List.mem_append_left _ (List.mem_append_right _ (h)))) (List.mem_of_getElem? (i := 25) rfl) (fun _ h => h)
  have p25 : PutF G s m args 25 7 2 (.array .byte) := putF_of C 7 2 tyX4 tyX4_ok nmX4 (T := TX4) (N := 3) (Cn := RX4) (ref := "TraceBook$Row") rfl (by decide) (fun _ h => List.mem_cons_of_mem _ (List.mem_append_right _ (h))) (List.mem_of_getElem? (i := 1) rfl) (fun _ h => h) rfl (by decide +kernel)
  refine poV (P := fun PO => V G p l e _ s m args below meth c (MQW G below args s _ _ (pV PO)) w 0 0 0 _ []) (fun PO hPO => ?_)
  obtain ⟨w0, hw0⟩ : ∃ z, z = w := ⟨_, rfl⟩
  rw [← hw0] at hPO
  have hF : Fr (fun t => t = T ∨ t = T + 5 ∨ t = 0) w0 w := by rw [hw0]; exact Fr.rf
  obtain ⟨h1, hBy, hLs, hVa, hvc, hvf⟩ := hB
  have hn0 := hLs.rg
  have hb0 := hBy.rg
  have hgv := gv1_b hvc hp
  obtain ⟨hgv1, hgv2, hgv3⟩ := hgv
  have J46 : ∀ (w : Wd) (vk9 : Nat) (f9 : Int → Int), (w r = some (T, .inr (7, [.ref bt, .ref ml, .ref vk9]))) → (BytesAt G w (T + 1) bt len cap b) → (ListAt G w (T + 3) ml n M) → (w vk9 = some (T + 5, .inl (gB G, aI (gv1 vcap pz) f9))) → (w ch = some (tg, .inr (4, chV pz v9 b0))) → (Fr (fun t => t = T ∨ t = T + 5 ∨ t = 0) w0 w) → (∀ j, 0 ≤ j → j < (gv1 vcap pz) → f9 j = ext vf vcap j) → V G p l e { frames := 3, cells := ((gv1 vcap pz) - vcap).toNat, slots := (2 * ((gv1 vcap pz) - vcap)).toNat, locals := 120 } s m args below meth c (MQW G below args s (((gv1 vcap pz) - vcap).toNat) ((2 * ((gv1 vcap pz) - vcap)).toNat) (pV PO)) w (((gv1 vcap pz) - vcap).toNat) ((2 * ((gv1 vcap pz) - vcap)).toNat) 46 [some (.ref r), some (.ref ch), some (.int (iI pz))] [] := by
    intro w vk9 f9 h1 hBy hLs hVa hch hF hf9
    refine v_iload_n C dX4_keepValue_46 rfl ?_
    refine v_if_lt C (⟨by omega, by omega⟩) (tgt := 61) dX4_keepValue_47 (by decide) (fun c_47 => ?_) (fun c_47 => ?_)
    · exact absurd c_47 (by omega)
    · refine v_aload_n C dX4_keepValue_50 rfl ?_
      refine v_getf C g25 h1 rfl dX4_keepValue_51 ?_
      refine v_iload_n C dX4_keepValue_54 rfl ?_
      refine v_aload_n C dX4_keepValue_55 rfl ?_
      refine v_getN C g121 hch rfl dX4_keepValue_56 ?_
      refine v_i2b C ((by rw [sg_i8 ⟨by omega, by omega⟩]; congr 1; unfold sg; rw [if_pos (by omega)]; omega : (iI v9).toInt8.toInt32 = iI v9)) dX4_keepValue_59 ?_
      refine v_bast C hVa (⟨by omega, by omega⟩) (by omega) (by omega) ((by rw [sg_i8 ⟨by omega, by omega⟩]; congr 1; unfold sg; rw [if_pos (by omega)]; omega : (iI v9).toInt8.toInt32 = iI v9)) dX4_keepValue_60 ?_
      refine v_upd hVa (fun w hVa hF9 hE9 => ?_)
      have h1 := hF9 _ _ _ (fun h9 => by have h8 : T = T + 5 := h9; omega) h1
      have hBy := hBy.fr hF9 (fun h9 => by have h8 : T + 1 = T + 5 := h9; omega) (fun h9 => by have h8 : T + 1 + 1 = T + 5 := h9; omega)
      have hLs := hLs.fr hF9 (fun h9 => by have h8 : T + 3 = T + 5 := h9; omega) (fun h9 => by have h8 : T + 3 + 1 = T + 5 := h9; omega)
      have hch := hF9 _ _ _ (fun h9 => by have h8 : tg = T + 5 := h9; omega) hch
      have hF := hF.tr (hF9.mono (fun t h9 => by have h8 : t = T + 5 := h9; show t = T ∨ t = T + 5 ∨ t = 0; omega))
      exact v_vret C rfl dX4_keepValue_61 (by omega) (by omega) (hPO _ ⟨vk9, _, ⟨h1, hBy, hLs, hVa, ⟨by omega, by omega⟩, fun j a q => by
          by_cases g : j = pz
          · rw [g, upI_eq]; exact hv
          · rw [upI_ne g, hf9 j a q]
            by_cases g2 : j < vcap
            · rw [ext_in a g2]; exact hvf j a g2
            · rw [ext_out (by omega)]; exact ⟨Int.le_refl 0, by omega⟩⟩, funext fun j => by
          by_cases g : 0 ≤ j ∧ j < gv1 vcap pz
          · rw [ext_in g.1 g.2]
            by_cases g2 : j = pz
            · rw [g2, upI_eq, upI_eq]
            · rw [upI_ne g2, upI_ne g2, hf9 j g.1 g.2]
          · rw [ext_out g, upI_ne (by omega), ext_out (by omega)], hF⟩)
  refine v_aload_n C dX4_keepValue_0 rfl ?_
  refine v_getN C g115 hch rfl dX4_keepValue_1 ?_
  refine v_bipush C dX4_keepValue_4 rfl ?_
  refine v_imul C dX4_keepValue_6 ?_
  refine v_aload_n C dX4_keepValue_7 rfl ?_
  refine v_getN C g118 hch rfl dX4_keepValue_8 ?_
  refine v_iadd C dX4_keepValue_11 ?_
  rw [show pz / 64 * 64 + pz % 64 = pz by omega]
  refine v_istore_n C dX4_keepValue_12 bsl_3_2 (by decide) rfl ?_
  refine v_iload_n C dX4_keepValue_13 rfl ?_
  refine v_aload_n C dX4_keepValue_14 rfl ?_
  refine v_getf C g25 h1 rfl dX4_keepValue_15 ?_
  refine v_alen C hVa (n := vcap) (i := 0) rfl (Int.toNat_of_nonneg (a := vcap) (by omega)) dX4_keepValue_18 ?_
  refine v_icmp_lt C (⟨by omega, by omega⟩) (⟨by omega, by omega⟩) (tgt := 46) dX4_keepValue_19 (by decide) (fun c_19 => ?_) (fun c_19 => ?_)
  · have e9 : gv1 vcap pz = vcap := if_neg (by omega)
    refine v_wide (k' := ((gv1 vcap pz) - vcap).toNat) (z' := (2 * ((gv1 vcap pz) - vcap)).toNat) (by omega) (by omega) ?_
    exact J46 w vk vf h1 hBy hLs (by rw [e9]; exact hVa) hch hF (fun j a q => by rw [e9] at q; exact (ext_in a q).symm)
  · have e9 : gv1 vcap pz = (if pz + 1 < 2 * vcap then 2 * vcap else pz + 1) := if_pos (by omega)
    refine v_aload_n C dX4_keepValue_22 rfl ?_
    refine v_aload_n C dX4_keepValue_23 rfl ?_
    refine v_getf C g25 h1 rfl dX4_keepValue_24 ?_
    refine v_iload_n C dX4_keepValue_27 rfl ?_
    refine v_iconst C dX4_keepValue_28 ?_
    refine v_iadd C dX4_keepValue_29 ?_
    refine v_iconst C dX4_keepValue_30 ?_
    refine v_aload_n C dX4_keepValue_31 rfl ?_
    refine v_getf C g25 h1 rfl dX4_keepValue_32 ?_
    refine v_alen C hVa (n := vcap) (i := 0) rfl (Int.toNat_of_nonneg (a := vcap) (by omega)) dX4_keepValue_35 ?_
    refine v_imul C dX4_keepValue_36 ?_
    refine v_max C (⟨by omega, by omega⟩) (⟨by omega, by omega⟩) (r := (gv1 vcap pz)) (gv1_max (by omega)) (List.mem_of_getElem? (i := 2) rfl) (List.mem_of_getElem? (i := 3) rfl) (List.mem_of_getElem? (i := 4) rfl) (List.mem_of_getElem? (i := 5) rfl) (Nat.le_of_ble_eq_true rfl) (Nat.le_of_ble_eq_true rfl) (by dsimp only; omega) (by dsimp only; omega) dX4_keepValue_37 ?_
    refine v_callSr C (b := 0) (t := 0) (ci := 0) (fs := []) (q := (RX7, TX7, 33)) (As := [_, _]) (rest := [_]) (c_J7_copyOf_9075b (n := (gv1 vcap pz)) hVa (by omega) ⟨by omega, by omega, by omega⟩ (fun j a q => ⟨by have := hvf j a q; omega, by have := hvf j a q; omega⟩)) (va_cwS 2 hts gX4_keepValue_J7_copyOf_9075b rfl rfl rfl (by decide +kernel) ⟨Nat.le_of_ble_eq_true rfl, Nat.le_of_ble_eq_true rfl⟩) rfl rfl (Nat.le_of_ble_eq_true rfl) dX4_keepValue_40 (by dsimp only; omega) (by dsimp only; omega) (fun x_40 w hp => ?_)
    obtain ⟨b9, rfl, h3, hF9⟩ := hp
    have h1 := hF9 _ _ _ (fun h9 => by have h8 : T = 0 := h9; omega) h1
    have hBy := hBy.fr hF9 (fun h9 => by have h8 : T + 1 = 0 := h9; omega) (fun h9 => by have h8 : T + 1 + 1 = 0 := h9; omega)
    have hLs := hLs.fr hF9 (fun h9 => by have h8 : T + 3 = 0 := h9; omega) (fun h9 => by have h8 : T + 3 + 1 = 0 := h9; omega)
    have hVa := hF9 _ _ _ (fun h9 => by have h8 : T + 5 = 0 := h9; omega) hVa
    have hch := hF9 _ _ _ (fun h9 => by have h8 : tg = 0 := h9; omega) hch
    have hF := hF.tr (hF9.mono (fun t h9 => by have h8 : t = 0 := h9; show t = T ∨ t = T + 5 ∨ t = 0; omega))
    refine v_retag h3 (T + 5) (fun w h3 hF9 hE9 => ?_)
    have h1 := hF9 _ _ _ (fun h9 => by have h8 : T = 0 := h9; omega) h1
    have hBy := hBy.fr hF9 (fun h9 => by have h8 : T + 1 = 0 := h9; omega) (fun h9 => by have h8 : T + 1 + 1 = 0 := h9; omega)
    have hLs := hLs.fr hF9 (fun h9 => by have h8 : T + 3 = 0 := h9; omega) (fun h9 => by have h8 : T + 3 + 1 = 0 := h9; omega)
    have hch := hF9 _ _ _ (fun h9 => by have h8 : tg = 0 := h9; omega) hch
    have hF := hF.tr (hF9.mono (fun t h9 => by have h8 : t = 0 := h9; show t = T ∨ t = T + 5 ∨ t = 0; omega))
    refine v_putf C p25 h1 rfl rfl (Nat.le_of_ble_eq_true rfl) dX4_keepValue_43 ?_
    refine v_upd h1 (fun w h1 hF9 hE9 => ?_)
    have hBy := hBy.fr hF9 (fun h9 => by have h8 : T + 1 = T := h9; omega) (fun h9 => by have h8 : T + 1 + 1 = T := h9; omega)
    have hLs := hLs.fr hF9 (fun h9 => by have h8 : T + 3 = T := h9; omega) (fun h9 => by have h8 : T + 3 + 1 = T := h9; omega)
    have hch := hF9 _ _ _ (fun h9 => by have h8 : tg = T := h9; omega) hch
    have h3 := hF9 _ _ _ (fun h9 => by have h8 : T + 5 = T := h9; omega) h3
    have hF := hF.tr (hF9.mono (fun t h9 => by have h8 : t = T := h9; show t = T ∨ t = T + 5 ∨ t = 0; omega))
    refine v_wide (k' := ((gv1 vcap pz) - vcap).toNat) (z' := (2 * ((gv1 vcap pz) - vcap)).toNat) (by omega) (by omega) ?_
    refine J46 w b9 _ h1 hBy hLs h3 hch hF (fun j a q => ?_)
    by_cases q2 : j < vcap
    · rw [cpI_in ⟨by omega, by omega⟩, ext_in a q2, show 0 + (j - 0) = j by omega]
    · rw [cpI_out (by omega), ext_out (by omega)]
