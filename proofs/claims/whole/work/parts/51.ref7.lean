
set_option maxRecDepth 100000 in
set_option maxHeartbeats 1000000 in
theorem c_X7_open0 {G : GG} {l : Launch} {r : Nat} {ad : Nat → Nat} {w : Wd} {c0 nw op sm ti sp nm nc sz ts av fi wr rm rc : Int} {A1 A3 A4 A9 A10 A11 A13 A14 A15 A16 A18 A20 A25 A26 A27 A28 A30 A31 : Int → Int} {t9 s9 : Int} (hR : RefAt G r ad w c0 nw op sm ti sp nm nc sz ts av fi wr rm rc A1 A3 A4 A9 A10 A11 A13 A14 A15 A16 A18 A20 A25 A26 A27 A28 A30 A31) (hti : R64 ti) (hsp : R64 sp) (hop : op = 0) (hsm : sm = 0 ∨ sm = 1) (ht9 : R64 t9) (hs9 : R64 s9) : MG G l yX7_open wsX7_open 4 160 0 0 [.ref r, .long (lI t9), .long (lI s9)] w (pV (fun (w' : Wd) => Fr mT w w' ∧ ((¬ ((0 ≤ t9 ∧ t9 < 1152921504606846976 ∧ 0 ≤ s9 ∧ s9 < 1152921504606846976) ∧ (sm = 0 ∨ ti < t9 ∨ (t9 = ti ∧ sp < s9))) ∧ RefAt G r ad w' 1 nw op sm ti sp nm nc sz ts av fi wr rm rc A1 A3 A4 A9 A10 A11 A13 A14 A15 A16 A18 A20 A25 A26 A27 A28 A30 A31) ∨ (((0 ≤ t9 ∧ t9 < 1152921504606846976 ∧ 0 ≤ s9 ∧ s9 < 1152921504606846976) ∧ (sm = 0 ∨ ti < t9 ∨ (t9 = ti ∧ sp < s9))) ∧ RefAt G r ad w' 0 nw 1 1 t9 s9 nm nc sz ts av fi wr rm rc A1 A3 A4 A9 A10 A11 A13 A14 A15 A16 A18 A20 A25 A26 A27 A28 A30 A31)))) := by
  refine MG.of (cc := cX7_open) (nL := 6) (ret := none) (ll := [some (.ref r), some (.long (lI t9)), none, some (.long (lI s9)), none, none]) (by decide) rfl (Nat.le_of_ble_eq_true rfl) rfl ?_
  intro p e s m args below meth c C
  have hts := C.2.2.2.2.1
  have p66 : PutF G s m args 66 10 0 (.int) := putF_of C 10 0 tyX7 tyX7_ok nmX7 (T := TX7) (N := 33) (Cn := RX7) (ref := "TraceBookModel") rfl (by decide) (fun _ h => List.mem_cons_of_mem _ (List.mem_append_right _ (h))) (List.mem_of_getElem? (i := 5) rfl) (fun _ h => h) rfl (by decide +kernel)
  have g66 : GetF G s m args 66 10 0 := getF_of C 10 0 (T := TX7) (N := 33) (Cn := RX7) (ref := "TraceBookModel") rfl (by decide) (fun _ h => List.mem_cons_of_mem _ (List.mem_append_right _ (h))) (List.mem_of_getElem? (i := 5) rfl) (fun _ h => h)
  have g138 : GetF G s m args 138 10 5 := getF_of C 10 5 (T := TX7) (N := 33) (Cn := RX7) (ref := "TraceBookModel") rfl (by decide) (fun _ h => List.mem_cons_of_mem _ (List.mem_append_right _ (h))) (List.mem_of_getElem? (i := 6) rfl) (fun _ h => h)
  have p138 : PutF G s m args 138 10 5 (.boolean) := putF_of C 10 5 tyX7 tyX7_ok nmX7 (T := TX7) (N := 33) (Cn := RX7) (ref := "TraceBookModel") rfl (by decide) (fun _ h => List.mem_cons_of_mem _ (List.mem_append_right _ (h))) (List.mem_of_getElem? (i := 6) rfl) (fun _ h => h) rfl (by decide +kernel)
  have p73 : PutF G s m args 73 10 6 (.boolean) := putF_of C 10 6 tyX7 tyX7_ok nmX7 (T := TX7) (N := 33) (Cn := RX7) (ref := "TraceBookModel") rfl (by decide) (fun _ h => List.mem_cons_of_mem _ (List.mem_append_right _ (h))) (List.mem_of_getElem? (i := 2) rfl) (fun _ h => h) rfl (by decide +kernel)
  have p93 : PutF G s m args 93 10 7 (.long) := putF_of C 10 7 tyX7 tyX7_ok nmX7 (T := TX7) (N := 33) (Cn := RX7) (ref := "TraceBookModel") rfl (by decide) (fun _ h => List.mem_cons_of_mem _ (List.mem_append_right _ (h))) (List.mem_of_getElem? (i := 3) rfl) (fun _ h => h) rfl (by decide +kernel)
  have p103 : PutF G s m args 103 10 8 (.long) := putF_of C 10 8 tyX7 tyX7_ok nmX7 (T := TX7) (N := 33) (Cn := RX7) (ref := "TraceBookModel") rfl (by decide) (fun _ h => List.mem_cons_of_mem _ (List.mem_append_right _ (h))) (List.mem_of_getElem? (i := 4) rfl) (fun _ h => h) rfl (by decide +kernel)
  have g73 : GetF G s m args 73 10 6 := getF_of C 10 6 (T := TX7) (N := 33) (Cn := RX7) (ref := "TraceBookModel") rfl (by decide) (fun _ h => List.mem_cons_of_mem _ (List.mem_append_right _ (h))) (List.mem_of_getElem? (i := 2) rfl) (fun _ h => h)
  have g93 : GetF G s m args 93 10 7 := getF_of C 10 7 (T := TX7) (N := 33) (Cn := RX7) (ref := "TraceBookModel") rfl (by decide) (fun _ h => List.mem_cons_of_mem _ (List.mem_append_right _ (h))) (List.mem_of_getElem? (i := 3) rfl) (fun _ h => h)
  have g103 : GetF G s m args 103 10 8 := getF_of C 10 8 (T := TX7) (N := 33) (Cn := RX7) (ref := "TraceBookModel") rfl (by decide) (fun _ h => List.mem_cons_of_mem _ (List.mem_append_right _ (h))) (List.mem_of_getElem? (i := 4) rfl) (fun _ h => h)
  refine poV (P := fun PO => V G p l e _ s m args below meth c (MQW G below args s _ _ (pV PO)) w 0 0 0 _ []) (fun PO hPO => ?_)
  obtain ⟨w0, hw0⟩ : ∃ z, z = w := ⟨_, rfl⟩
  rw [← hw0] at hPO
  have hF : Fr mT w0 w := by rw [hw0]; exact Fr.rf
  have J33 : ∀ q : Int, BP q (0 ≤ t9 ∧ t9 < 1152921504606846976 ∧ 0 ≤ s9 ∧ s9 < 1152921504606846976) → V G p l e { frames := 4, cells := 0, slots := 0, locals := 160 } s m args below meth c (MQW G below args s 0 0 (pV PO)) w 0 0 33 [some (.ref r), some (.long (lI t9)), none, some (.long (lI s9)), none, none] [.int (iI q)] := by
    intro q h33
    refine v_istore C dX7_open_33 sl_6_5 (by decide) rfl ?_
    refine v_aload_n C dX7_open_35 rfl ?_
    have J80 : ∀ q2 : Int, (q2 = 0 ∧ ((0 ≤ t9 ∧ t9 < 1152921504606846976 ∧ 0 ≤ s9 ∧ s9 < 1152921504606846976) ∧ (sm = 0 ∨ ti < t9 ∨ (t9 = ti ∧ sp < s9)))) ∨ (q2 = 1 ∧ ¬ ((0 ≤ t9 ∧ t9 < 1152921504606846976 ∧ 0 ≤ s9 ∧ s9 < 1152921504606846976) ∧ (sm = 0 ∨ ti < t9 ∨ (t9 = ti ∧ sp < s9)))) → V G p l e { frames := 4, cells := 0, slots := 0, locals := 160 } s m args below meth c (MQW G below args s 0 0 (pV PO)) w 0 0 80 [some (.ref r), some (.long (lI t9)), none, some (.long (lI s9)), none, some (.int (iI q))] [.int (iI q2), .ref r] := by
      intro q2 h80
      refine m_put_0 C p66 hR dX7_open_80 (fun w hR hF9 => ?_)
      have hF := hF.tr hF9
      refine v_aload_n C dX7_open_83 rfl ?_
      refine v_getf C g66 hR.1 rfl dX7_open_84 ?_
      refine v_if_le C (⟨by omega, by omega⟩) (tgt := 91) dX7_open_87 (by decide) (fun c_87 => ?_) (fun c_87 => ?_)
      · refine v_aload_n C dX7_open_91 rfl ?_
        refine v_getf C g138 hR.1 rfl dX7_open_92 ?_
        refine v_if_eq C (⟨by omega, by omega⟩) (tgt := 111) dX7_open_95 (by decide) (fun c_95 => ?_) (fun c_95 => ?_)
        · refine v_aload_n C dX7_open_111 rfl ?_
          refine v_iconst C dX7_open_112 ?_
          refine m_put_5 C p138 hR (Or.inr rfl) dX7_open_113 (fun w hR hF9 => ?_)
          have hF := hF.tr hF9
          refine v_aload_n C dX7_open_116 rfl ?_
          refine v_iconst C dX7_open_117 ?_
          refine m_put_6 C p73 hR (Or.inr rfl) dX7_open_118 (fun w hR hF9 => ?_)
          have hF := hF.tr hF9
          refine v_aload_n C dX7_open_121 rfl ?_
          refine v_lload_n C dX7_open_122 rfl ?_
          refine m_put_7 C p93 hR dX7_open_123 (fun w hR hF9 => ?_)
          have hF := hF.tr hF9
          refine v_aload_n C dX7_open_126 rfl ?_
          refine v_lload_n C dX7_open_127 rfl ?_
          refine m_put_8 C p103 hR dX7_open_128 (fun w hR hF9 => ?_)
          have hF := hF.tr hF9
          exact v_vret C rfl dX7_open_131 (Nat.le_refl _) (Nat.le_refl _) (hPO _ ⟨hF, Or.inr ⟨by omega, (show q2 = 0 by omega) ▸ hR⟩⟩)
        · exact absurd c_95 (by omega)
      · exact v_vret C rfl dX7_open_90 (Nat.le_refl _) (Nat.le_refl _) (hPO _ ⟨hF, Or.inl ⟨by omega, (show q2 = 1 by omega) ▸ hR⟩⟩)
    refine v_iload C dX7_open_36 rfl ?_
    refine v_if_eq C (h33.r32) (tgt := 79) dX7_open_38 (by decide) (fun c_38 => ?_) (fun c_38 => ?_)
    · refine v_iconst C dX7_open_79 ?_
      first
        | (have h9 := h33.z c_38; exact J80 _ (Or.inr ⟨rfl, by omega⟩))
        | (have h9 := h33.nz c_38; exact J80 _ (Or.inr ⟨rfl, by omega⟩))
    · refine v_aload_n C dX7_open_41 rfl ?_
      refine v_getf C g73 hR.1 rfl dX7_open_42 ?_
      refine v_if_eq C (⟨by omega, by omega⟩) (tgt := 75) dX7_open_45 (by decide) (fun c_45 => ?_) (fun c_45 => ?_)
      · refine v_iconst C dX7_open_75 ?_
        refine v_goto C (tgt := 80) dX7_open_76 (by decide) ?_
        have h9 := h33.nz c_38
        exact J80 _ (Or.inl ⟨rfl, by omega⟩)
      · refine v_lload_n C dX7_open_48 rfl ?_
        refine v_aload_n C dX7_open_49 rfl ?_
        refine v_getf C g93 hR.1 rfl dX7_open_50 ?_
        refine v_lcmp_gt C (⟨by omega, by omega⟩) (⟨by omega, by omega⟩) (tgt := 75) dX7_open_53 dX7_open_54 (by decide) (fun c_53 => ?_) (fun c_53 => ?_)
        · refine v_iconst C dX7_open_75 ?_
          refine v_goto C (tgt := 80) dX7_open_76 (by decide) ?_
          have h9 := h33.nz c_38
          exact J80 _ (Or.inl ⟨rfl, by omega⟩)
        · refine v_lload_n C dX7_open_57 rfl ?_
          refine v_aload_n C dX7_open_58 rfl ?_
          refine v_getf C g93 hR.1 rfl dX7_open_59 ?_
          refine v_lcmp_ne C (⟨by omega, by omega⟩) (⟨by omega, by omega⟩) (tgt := 79) dX7_open_62 dX7_open_63 (by decide) (fun c_62 => ?_) (fun c_62 => ?_)
          · refine v_iconst C dX7_open_79 ?_
            first
              | (have h9 := h33.z c_38; exact J80 _ (Or.inr ⟨rfl, by omega⟩))
              | (have h9 := h33.nz c_38; exact J80 _ (Or.inr ⟨rfl, by omega⟩))
          · refine v_lload_n C dX7_open_66 rfl ?_
            refine v_aload_n C dX7_open_67 rfl ?_
            refine v_getf C g103 hR.1 rfl dX7_open_68 ?_
            refine v_lcmp_le C (⟨by omega, by omega⟩) (⟨by omega, by omega⟩) (tgt := 79) dX7_open_71 dX7_open_72 (by decide) (fun c_71 => ?_) (fun c_71 => ?_)
            · refine v_iconst C dX7_open_79 ?_
              first
                | (have h9 := h33.z c_38; exact J80 _ (Or.inr ⟨rfl, by omega⟩))
                | (have h9 := h33.nz c_38; exact J80 _ (Or.inr ⟨rfl, by omega⟩))
            · refine v_iconst C dX7_open_75 ?_
              refine v_goto C (tgt := 80) dX7_open_76 (by decide) ?_
              have h9 := h33.nz c_38
              exact J80 _ (Or.inl ⟨rfl, by omega⟩)
  refine v_lload_n C dX7_open_0 rfl ?_
  refine v_lconst C (v := 0) dX7_open_1 rfl ?_
  refine v_lcmp_lt C (⟨by omega, by omega⟩) (⟨by omega, by omega⟩) (tgt := 32) dX7_open_2 dX7_open_3 (by decide) (fun c_2 => ?_) (fun c_2 => ?_)
  · refine v_iconst C dX7_open_32 ?_
    exact J33 _ (Or.inr ⟨rfl, by omega⟩)
  · refine v_lload_n C dX7_open_6 rfl ?_
    refine v_ldc2 C (v := 1152921504606846976) (List.mem_of_getElem? (i := 1) rfl) (by decide +kernel) dX7_open_7 ?_
    refine v_lcmp_ge C (⟨by omega, by omega⟩) (⟨by omega, by omega⟩) (tgt := 32) dX7_open_10 dX7_open_11 (by decide) (fun c_10 => ?_) (fun c_10 => ?_)
    · refine v_iconst C dX7_open_32 ?_
      exact J33 _ (Or.inr ⟨rfl, by omega⟩)
    · refine v_lload_n C dX7_open_14 rfl ?_
      refine v_lconst C (v := 0) dX7_open_15 rfl ?_
      refine v_lcmp_lt C (⟨by omega, by omega⟩) (⟨by omega, by omega⟩) (tgt := 32) dX7_open_16 dX7_open_17 (by decide) (fun c_16 => ?_) (fun c_16 => ?_)
      · refine v_iconst C dX7_open_32 ?_
        exact J33 _ (Or.inr ⟨rfl, by omega⟩)
      · refine v_lload_n C dX7_open_20 rfl ?_
        refine v_ldc2 C (v := 1152921504606846976) (List.mem_of_getElem? (i := 1) rfl) (by decide +kernel) dX7_open_21 ?_
        refine v_lcmp_ge C (⟨by omega, by omega⟩) (⟨by omega, by omega⟩) (tgt := 32) dX7_open_24 dX7_open_25 (by decide) (fun c_24 => ?_) (fun c_24 => ?_)
        · refine v_iconst C dX7_open_32 ?_
          exact J33 _ (Or.inr ⟨rfl, by omega⟩)
        · refine v_iconst C dX7_open_28 ?_
          refine v_goto C (tgt := 33) dX7_open_29 (by decide) ?_
          exact J33 _ (Or.inl ⟨rfl, by omega⟩)
set_option maxRecDepth 100000 in
set_option maxHeartbeats 1000000 in
theorem c_X7_close0 {G : GG} {l : Launch} {r : Nat} {ad : Nat → Nat} {w : Wd} {c0 nw op sm ti sp nm nc sz ts av fi wr rm rc : Int} {A1 A3 A4 A9 A10 A11 A13 A14 A15 A16 A18 A20 A25 A26 A27 A28 A30 A31 : Int → Int}  (hR : RefAt G r ad w c0 nw op sm ti sp nm nc sz ts av fi wr rm rc A1 A3 A4 A9 A10 A11 A13 A14 A15 A16 A18 A20 A25 A26 A27 A28 A30 A31) (hop : op = 0) : MG G l yX7_close wsX7_close 4 160 0 0 [.ref r] w (pI (fun (x : Int) (w' : Wd) => Fr mT w w' ∧ x = -1 ∧ RefAt G r ad w' 0 nw op sm ti sp nm nc sz ts av fi wr rm rc A1 A3 A4 A9 A10 A11 A13 A14 A15 A16 A18 A20 A25 A26 A27 A28 A30 A31)) := by
  refine MG.of (cc := cX7_close) (nL := 2) (ret := (some .int)) (ll := [some (.ref r), none]) (by decide) rfl (Nat.le_of_ble_eq_true rfl) rfl ?_
  intro p e s m args below meth c C
  have hts := C.2.2.2.2.1
  have p66 : PutF G s m args 66 10 0 (.int) := putF_of C 10 0 tyX7 tyX7_ok nmX7 (T := TX7) (N := 33) (Cn := RX7) (ref := "TraceBookModel") rfl (by decide) (fun _ h => List.mem_cons_of_mem _ (List.mem_append_right _ (h))) (List.mem_of_getElem? (i := 1) rfl) (fun _ h => h) rfl (by decide +kernel)
  have g138 : GetF G s m args 138 10 5 := getF_of C 10 5 (T := TX7) (N := 33) (Cn := RX7) (ref := "TraceBookModel") rfl (by decide) (fun _ h => List.mem_cons_of_mem _ (List.mem_append_right _ (h))) (List.mem_of_getElem? (i := 2) rfl) (fun _ h => h)
  refine poI (P := fun PO => V G p l e _ s m args below meth c (MQW G below args s _ _ (pI PO)) w 0 0 0 _ []) (fun PO hPO => ?_)
  obtain ⟨w0, hw0⟩ : ∃ z, z = w := ⟨_, rfl⟩
  rw [← hw0] at hPO
  have hF : Fr mT w0 w := by rw [hw0]; exact Fr.rf
  refine v_aload_n C dX7_close_0 rfl ?_
  refine v_iconst C dX7_close_1 ?_
  refine m_put_0 C p66 hR dX7_close_2 (fun w hR hF9 => ?_)
  have hF := hF.tr hF9
  refine v_aload_n C dX7_close_5 rfl ?_
  refine v_getf C g138 hR.1 rfl dX7_close_6 ?_
  refine v_if_ne C (⟨by omega, by omega⟩) (tgt := 14) dX7_close_9 (by decide) (fun c_9 => ?_) (fun c_9 => ?_)
  · exact absurd c_9 (by omega)
  · refine v_iconst C dX7_close_12 ?_
    exact v_iret C rfl dX7_close_13 (Nat.le_refl _) (Nat.le_refl _) (hPO _ _ ⟨hF, rfl, hR⟩)
