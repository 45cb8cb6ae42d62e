section VB2
variable {G : GG} {p : Program} {l : Launch} {e : Env} {R : Room} {s : State} {m : MethodId} {args : Array Value} {below : List Frame} {meth : Method} {c : Code} {Q : State → Prop} {y : MethodName} {cc : ByteArray} {nL : Nat} {ret : Option FieldType} {ws : List Cond} {w : Wd} {k z pc : Nat} {ll : List (Option Value)} {st : List Value}
theorem v_dup_x1 (C : Cx G p s m args meth c y cc nL ret ws) {v u : Value} (hv : v.category = 1) (hu : u.category = 1) (d : decode cc pc = .ok (.dup_x1, 1)) (kk : V G p l e R s m args below meth c Q w k z (pc + 1) ll (v :: u :: v :: st)) : V G p l e R s m args below meth c Q w k z pc ll (v :: u :: st) := by
  intro H locs ls hR hL hl
  exact lv_dup_x1 C.1 C.2.1 d hv hu (kk H locs ls hR hL hl)
theorem v_acmp_eqS (C : Cx G p s m args meth c y cc nL ret ws) {a : Nat} {off : Int} {tgt : Nat} (d : decode cc pc = .ok (.if_acmp .eq off, 3)) (ht : (pc : Int) + off = (tgt : Int)) (kk : V G p l e R s m args below meth c Q w k z tgt ll st) : V G p l e R s m args below meth c Q w k z pc ll (.ref a :: .ref a :: st) := by
  intro H locs ls hR hL hl
  exact lv_acmp_eq (rx := some a) (ry := some a) C.1 C.2.1 d ht (fun _ => kk H locs ls hR hL hl) (fun h => absurd rfl h)
theorem v_acmp_eqD (C : Cx G p s m args meth c y cc nL ret ws) {a b : Nat} (hab : a ≠ b) {off : Int} {tgt : Nat} (d : decode cc pc = .ok (.if_acmp .eq off, 3)) (ht : (pc : Int) + off = (tgt : Int)) (kk : V G p l e R s m args below meth c Q w k z (pc + 3) ll st) : V G p l e R s m args below meth c Q w k z pc ll (.ref b :: .ref a :: st) := by
  intro H locs ls hR hL hl
  exact lv_acmp_eq (rx := some a) (ry := some b) C.1 C.2.1 d ht (fun h => absurd (Option.some.inj h) hab) (fun _ => kk H locs ls hR hL hl)
theorem v_acmp_neS (C : Cx G p s m args meth c y cc nL ret ws) {a : Nat} {off : Int} {tgt : Nat} (d : decode cc pc = .ok (.if_acmp .ne off, 3)) (ht : (pc : Int) + off = (tgt : Int)) (kk : V G p l e R s m args below meth c Q w k z (pc + 3) ll st) : V G p l e R s m args below meth c Q w k z pc ll (.ref a :: .ref a :: st) := by
  intro H locs ls hR hL hl
  exact lv_acmp_ne (rx := some a) (ry := some a) C.1 C.2.1 d ht (fun h => absurd rfl h) (fun _ => kk H locs ls hR hL hl)
theorem v_max (C : Cx G p s m args meth c y cc nL ret ws) {a b r : Int} {idx : Nat} (ha : R32 a) (hb : R32 b) (hr : (a < b ∧ r = b) ∨ (¬ a < b ∧ r = a)) (h1 : Cond.methodLink y.cls idx Lib.Math.max.name ∈ ws) (h2 : Cond.static Lib.Math.max.name ∈ ws) (h3 : Cond.initialized "java/lang/Math" ∈ ws) (h4 : Cond.code Lib.Math.max.name Lib.Math.max.code 2 (some .int) ∈ ws) (hf : 1 ≤ R.frames) (hlo : (st.map fun v => v.category).sum + 13 ≤ R.locals) (hc : k ≤ R.cells) (hs : z ≤ R.slots) (d : decode cc pc = .ok (.invokestatic idx, 3)) (kk : V G p l e R s m args below meth c Q w k z (pc + 3) ll (.int (iI r) :: st)) : V G p l e R s m args below meth c Q w k z pc ll (.int (iI b) :: .int (iI a) :: st) := by
  intro H locs ls hR hL hl
  obtain ⟨hx, hb2, hnl, hown, hts, -⟩ := id C
  refine va_mmax hx hb2 hl.1.symm hown (hts _ h1) (hts _ h2) (hts _ h3) (hts _ h4) hf hlo hc hs d ?_
  have h9 := kk H locs ls hR hL hl
  rcases hr with ⟨q, rfl⟩ | ⟨q, rfl⟩
  · rw [if_pos ((iI_lt ha hb).mpr q)]; exact h9
  · rw [if_neg (fun g => q ((iI_lt ha hb).mp g))]; exact h9
theorem v_min (C : Cx G p s m args meth c y cc nL ret ws) {a b r : Int} {idx : Nat} (ha : R32 a) (hb : R32 b) (hr : (b < a ∧ r = b) ∨ (¬ b < a ∧ r = a)) (h1 : Cond.methodLink y.cls idx Lib.Math.min.name ∈ ws) (h2 : Cond.static Lib.Math.min.name ∈ ws) (h3 : Cond.initialized "java/lang/Math" ∈ ws) (h4 : Cond.code Lib.Math.min.name Lib.Math.min.code 2 (some .int) ∈ ws) (hf : 1 ≤ R.frames) (hlo : (st.map fun v => v.category).sum + 13 ≤ R.locals) (hc : k ≤ R.cells) (hs : z ≤ R.slots) (d : decode cc pc = .ok (.invokestatic idx, 3)) (kk : V G p l e R s m args below meth c Q w k z (pc + 3) ll (.int (iI r) :: st)) : V G p l e R s m args below meth c Q w k z pc ll (.int (iI b) :: .int (iI a) :: st) := by
  intro H locs ls hR hL hl
  obtain ⟨hx, hb2, hnl, hown, hts, -⟩ := id C
  refine va_mmin hx hb2 hl.1.symm hown (hts _ h1) (hts _ h2) (hts _ h3) (hts _ h4) hf hlo hc hs d ?_
  have h9 := kk H locs ls hR hL hl
  rcases hr with ⟨q, rfl⟩ | ⟨q, rfl⟩
  · rw [if_pos ((iI_lt hb ha).mpr q)]; exact h9
  · rw [if_neg (fun g => q ((iI_lt hb ha).mp g))]; exact h9
theorem v_newQ (C : Cx G p s m args meth c y cc nL ret ws) {idx : Nat} {n : Int} (t : Nat) (h1 : Cond.classLink y.cls idx "java/lang/Object" ∈ ws) (h0 : 0 ≤ n) (hn : n ≤ 60000000) (hcells : k + 1 ≤ R.cells) (hslots : z + n.toNat ≤ R.slots) (d : decode cc pc = .ok (.anewarray idx, 3))
    (kk : ∀ a : Nat, w a = none → V G p l e R s m args below meth c Q (updW w a (t, .inl (gO G, aQ n (fun _ => none)))) (k + 1) (z + n.toNat) (pc + 3) ll (.ref a :: st)) : V G p l e R s m args below meth c Q w k z pc ll (.int (iI n) :: st) := by
  intro H locs ls hR hL hl
  obtain ⟨hx, hb, hnl, hown, hts, -, -, hK, -⟩ := id C
  have hr : R32 n := ⟨by omega, by omega⟩
  have hcl := iI_clamp hr
  refine W.anew hx hb hown (hts _ h1) (va_AO.use hK.2.1.2.2.2.2.2.1.2.2) rfl d rfl (fun q => by have := (iI_lt (b := 0) hr ⟨by omega, by omega⟩).mp q; omega) (by rw [hcl]; omega) hcells (by rw [hcl]; exact hslots) fun cA kA comp f1 f2 f3 f4 => ?_
  obtain ⟨kB, comp2, -, -, -, g4⟩ := (hK.1.2 3 _ rfl).2
  have hcA : cA = gO G := Option.some.inj (f1.symm.trans g4)
  rw [hcA]
  generalize hH1 : H.push ({ cls := gO G, slots := Array.replicate (iI n).toNatClampNeg .null, vm := .none } : Cell) = H1
  have z1 : H1.size = H.size + 1 := by rw [← hH1, Array.size_push]
  have e1 : H1[H.size]? = some (arrV (gO G) (iI n).toNatClampNeg (fun _ => .null)) := by rw [← hH1, Array.getElem?_push_size, ← arrV_new]
  have o1 : ∀ q : Nat, q < H.size → H1[q]? = H[q]? := fun q hq => by rw [← hH1, Array.getElem?_push, if_neg (Nat.ne_of_lt hq)]
  rw [hcl] at e1 ⊢
  refine kk H.size hR.fresh H1 locs ls (hR.new (by omega) o1 ?_) hL hl
  show H1[H.size]? = some (vp_cell (gO G) (aQ n (fun _ => none)))
  rw [e1, aQ, vp_cell_q]
  rfl
def GetN (G : GG) (s : State) (m : MethodId) (args : Array Value) (idx ci k : Nat) : Prop := ∃ (own ref name desc : String) (cf kk i : Nat) (kc : Class) (f : Field), s.vm.findClass own = some m.cls ∧ (Cond.fieldLinkNest own idx ref name desc "TraceBook").before args s = true ∧ s.fieldFound? ref name desc = some (cf, kc, i, f) ∧ f.isStatic = false ∧ f.slot = (gD G).2 ci k ∧ kk = k ∧ ∃ q : vw_C, vwCl[ci]? = some q ∧ k < q.2.2
theorem getN_of (C : Cx G p s m args meth c y cc nL ret ws) (ci k : Nat) {idx : Nat} {T : u_T} {N : Nat} {Cn ref : String} (hc : vwCl[ci]? = some (Cn, T, N)) (hk : k < N) (hin : ∀ w ∈ u_ws Cn T N, w ∈ ws) (hl : (y.cls, idx, ref, (T k).2.1, (T k).2.2.1) ∈ kkF) (hsame : ∀ x, s.fieldFound? (T k).1 (T k).2.1 (T k).2.2.1 = some x → s.fieldFound? ref (T k).2.1 (T k).2.2.1 = some x) : GetN G s m args idx ci k := by
  obtain ⟨hx, hb, hnl, hown, hts, -, -, hK, -⟩ := id C
  obtain ⟨hS, hfc, kC, hkC, hkind⟩ := hK.1.1 ci _ hc
  obtain ⟨cf, kf, fi, f, hi, hsl⟩ := hS k hk
  exact ⟨_, _, _, _, cf, k, fi, kf, f, hown, va_Nw.use rfl (hK.2.2.2 _ hl), hsame _ hi, (u_facts hfc hkC (u_lays hts hin hk) hi).1, hsl, rfl, _, hc, hk⟩
def PutN (G : GG) (s : State) (m : MethodId) (args : Array Value) (idx ci k : Nat) (ty : FieldType) : Prop := ∃ (own ref name desc : String) (cf i : Nat) (kc : Class) (f : Field), s.vm.findClass own = some m.cls ∧ (Cond.fieldLinkNest own idx ref name desc "TraceBook").before args s = true ∧ s.fieldFound? ref name desc = some (cf, kc, i, f) ∧ f.isStatic = false ∧ f.slot = (gD G).2 ci k ∧ (∀ v : Value, narrow ty v = v → fits ty v = true → k2_Sd s f ((gD G).1 ci) v) ∧ ∃ q : vw_C, vwCl[ci]? = some q ∧ k < q.2.2 ∧ ∀ a b, a < q.2.2 → b < q.2.2 → a ≠ b → (gD G).2 ci a ≠ (gD G).2 ci b
theorem putN_of (C : Cx G p s m args meth c y cc nL ret ws) (ci k : Nat) {idx : Nat} {T : u_T} {N : Nat} {Cn ref : String} {ty : FieldType} (ty0 : Nat → FieldType) (hty : ∀ k, k < N → parseFieldDescriptor (T k).2.2.1 = some (ty0 k)) (hnm : ∀ a, a < N → ∀ b, b < N → a ≠ b → (T a).2.1 ≠ (T b).2.1) (hc : vwCl[ci]? = some (Cn, T, N)) (hk : k < N) (hin : ∀ w ∈ u_ws Cn T N, w ∈ ws) (hl : (y.cls, idx, ref, (T k).2.1, (T k).2.2.1) ∈ kkF) (hsame : ∀ x, s.fieldFound? (T k).1 (T k).2.1 (T k).2.2.1 = some x → s.fieldFound? ref (T k).2.1 (T k).2.2.1 = some x) (hfin : (T k).2.2.2 = false) (hd : parseFieldDescriptor (T k).2.2.1 = some ty) : PutN G s m args idx ci k ty := by
  obtain ⟨hx, hb, hnl, hown, hts, -, -, hK, -⟩ := id C
  have hap := va_apart (own := y.cls) hts hin ty0 hty hnm hK.1 hc
  obtain ⟨hS, hfc, kC, hkC, hkind⟩ := hK.1.1 ci _ hc
  obtain ⟨cf, kf, fi, f, hi, hsl⟩ := hS k hk
  have hlay := hts _ (hin _ (u_in_lay hk))
  unfold u_lay at hlay
  rw [if_neg (by rw [hfin]; decide)] at hlay
  exact ⟨_, _, _, _, cf, fi, kf, f, hown, va_Nw.use rfl (hK.2.2.2 _ hl), hsame _ hi, (u_facts hfc hkC (u_lays hts hin hk) hi).1, hsl, fun v hn hfit => u_store hfc hkC hkind hlay hi hd hn hfit, _, hc, hk, hap⟩
theorem v_getN (C : Cx G p s m args meth c y cc nL ret ws) {idx ci i a t : Nat} {fs : List Value} {v : Value} (g : GetN G s m args idx ci i) (ha : w a = some (t, .inr (ci, fs))) (hv : fs[i]? = some v) (d : decode cc pc = .ok (.getfield idx, 3)) (kk : V G p l e R s m args below meth c Q w k z (pc + 3) ll (v :: st)) : V G p l e R s m args below meth c Q w k z pc ll (.ref a :: st) := by
  intro H locs ls hR hL hl
  obtain ⟨own, ref, name, desc, cf, kq, i2, kc, f, h1, h2, h3, h4, h5, h6, q, h7, h8⟩ := g
  subst h6
  obtain ⟨-, r, r1, cell, q1, q2, q3, q4⟩ := hR.2.2 _ _ _ ha
  have hr : r = q := Option.some.inj (r1.symm.trans h7)
  subst hr
  refine va_Wgetf C.1 C.2.1 h1 h2 h3 h4 q1 (by rw [q3]; exact fun h => by cases h) (v := v) ?_ rfl rfl d (kk H locs ls hR hL hl)
  rw [h5, q4 _ h8]
  simp [vp_V, hv]
theorem v_putN (C : Cx G p s m args meth c y cc nL ret ws) {idx ci i a t : Nat} {fs : List Value} {v : Value} {ty : FieldType} (g : PutN G s m args idx ci i ty) (ha : w a = some (t, .inr (ci, fs))) (hn : narrow ty v = v) (hf : fits ty v = true) (hlen : i < fs.length) (d : decode cc pc = .ok (.putfield idx, 3)) (kk : V G p l e R s m args below meth c Q (updW w a (t, .inr (ci, fs.set i v))) k z (pc + 3) ll st) : V G p l e R s m args below meth c Q w k z pc ll (v :: .ref a :: st) := by
  intro H locs ls hR hL hl
  obtain ⟨own, ref, name, desc, cf, i2, kc, f, h1, h2, h3, h4, h5, h6, q, h7, h8, h9⟩ := g
  obtain ⟨hga, r, r1, cell, q1, q2, q3, q4⟩ := hR.2.2 _ _ _ ha
  have hr : r = q := Option.some.inj (r1.symm.trans h7)
  subst hr
  refine va_WputK C.1 C.2.1 h1 h2 h3 h4 (by rw [q2]; exact h6 v hn hf) q1 q3 (by rw [h5]; exact k2_hasslot (q4 i h8)) rfl rfl d fun H' e1 e2 e3 => ?_
  rw [h5] at e1 ⊢
  exact kk H' _ ls (hR.put ha e2 e3 ⟨_, h7, t_OB.to (V := updV (vp_V fs) i v) ⟨_, e1, q2, q3, t_set q4 h9 h8 v⟩ (fun j _ => vp_updV_set hlen v j)⟩) (fun z hz => by
    rcases List.mem_append.mp hz with h | h
    · exact hL z h
    · rw [List.mem_singleton.mp h]; exact hga) hl
def cpI {α : Type} (f g : Int → α) (sp dp n : Int) : Int → α := fun j => if dp ≤ j ∧ j < dp + n then f (sp + (j - dp)) else g j
theorem cpI_in {α : Type} {f g : Int → α} {sp dp n j : Int} (h : dp ≤ j ∧ j < dp + n) : cpI f g sp dp n j = f (sp + (j - dp)) := if_pos h
theorem cpI_out {α : Type} {f g : Int → α} {sp dp n j : Int} (h : ¬ (dp ≤ j ∧ j < dp + n)) : cpI f g sp dp n j = g j := if_neg h
theorem cpI_cpy {α β : Type} (mk : α → β) {f g : Int → α} {sp dp n : Int} (h1 : 0 ≤ sp) (h2 : 0 ≤ dp) (h3 : 0 ≤ n) : va_cpy (fun j : Nat => mk (f (j : Int))) (fun j : Nat => mk (g (j : Int))) sp.toNat dp.toNat n.toNat = fun j : Nat => mk (cpI f g sp dp n (j : Int)) := by
  funext j
  unfold va_cpy cpI
  by_cases q : dp.toNat ≤ j ∧ j < dp.toNat + n.toNat
  · rw [if_pos q, if_pos ⟨by omega, by omega⟩]
    exact congrArg mk (congrArg f (show ((sp.toNat + (j - dp.toNat) : Nat) : Int) = sp + ((j : Int) - dp) by omega))
  · rw [if_neg q, if_neg (fun g => q ⟨by omega, by omega⟩)]
theorem fits_b {v : Int} (h : -128 ≤ v ∧ v < 128) : fits .byte (.int (iI v)) = true := by
  show (decide (-128 ≤ iI v) && decide (iI v ≤ 127)) = true
  have h1 : (-128 : Int32) ≤ iI v := (iI_le (a := -128) (b := v) ⟨by omega, by omega⟩ ⟨by omega, by omega⟩).mpr h.1
  have h2 : iI v ≤ (127 : Int32) := (iI_le (a := v) (b := 127) ⟨by omega, by omega⟩ ⟨by omega, by omega⟩).mpr (by omega)
  rw [decide_eq_true h1, decide_eq_true h2]
  rfl
set_option maxHeartbeats 1000000 in
theorem v_copyB (C : Cx G p s m args meth c y cc nL ret ws) {idx a0 a t0 t1 : Nat} {n0 n1 sp dp n : Int} {f g : Int → Int} (ha0 : w a0 = some (t0, .inl (gB G, aI n0 f))) (ha : w a = some (t1, .inl (gB G, aI n1 g))) (h1 : Cond.methodLink y.cls idx arraycopyName ∈ ws) (h2 : Cond.native arraycopyName ∈ ws) (h3 : Cond.static arraycopyName ∈ ws) (h4 : Cond.initialized "java/lang/System" ∈ ws) (h5 : 0 ≤ sp ∧ 0 ≤ dp ∧ 0 ≤ n) (h6 : sp + n ≤ n0 ∧ dp + n ≤ n1 ∧ n0 ≤ 60000000 ∧ n1 ≤ 60000000) (hel : ∀ j, sp ≤ j → j < sp + n → -128 ≤ f j ∧ f j < 128) (hf : 1 ≤ R.frames) (hlo : (st.map fun v => v.category).sum + (nativeFrameWords "java/lang/System" "arraycopy" 5 + 11) ≤ R.locals) (d : decode cc pc = .ok (.invokestatic idx, 3))
    (kk : V G p l e R s m args below meth c Q (updW w a (t1, .inl (gB G, aI n1 (cpI f g sp dp n)))) k z (pc + 3) ll st) : V G p l e R s m args below meth c Q w k z pc ll (.int (iI n) :: .int (iI dp) :: .ref a :: .int (iI sp) :: .ref a0 :: st) := by
  intro H locs ls hR hL hl T hT X
  obtain ⟨hx, hb, hnl, hown, hts, -, -, hK, -⟩ := id C
  have hc0 : H[a0]? = some (vp_cell (gB G) (aI n0 f)) := (hR.2.2 _ _ _ ha0).2
  have hc1 : H[a]? = some (vp_cell (gB G) (aI n1 g)) := (hR.2.2 _ _ _ ha).2
  have Rs : R32 sp := ⟨by omega, by omega⟩
  have Rd : R32 dp := ⟨by omega, by omega⟩
  have Rn : R32 n := ⟨by omega, by omega⟩
  have ks := iI_clamp Rs
  have kd := iI_clamp Rd
  have kn := iI_clamp Rn
  obtain ⟨-, k0, hk0, cm0, hkk0⟩ := (hK.1.2 0 _ rfl).1 n0.toNat (fun j => .int (iI (f (j : Int))))
  obtain ⟨-, k1, hk1, cm1, hkk1⟩ := (hK.1.2 0 _ rfl).1 n1.toNat (fun j => .int (iI (g (j : Int))))
  obtain ⟨vm', X', step⟩ := X.arraycopy hx hown (hts _ h1) (hts _ h2) (hts _ h3) (hts _ h4) (src := a0) (dst := a) (cs := vp_cell (gB G) (aI n0 f)) (cd := vp_cell (gB G) (aI n1 g)) (srcPos := iI sp) (destPos := iI dp) (n := iI n) (by rw [hT]; exact hc0) (by rw [hT]; exact hc1)
    (fun _ h => by cases h) (fun _ h => by cases h) (fun h => by cases h) (fun h => by cases h) hk0 hk1 hkk0 hkk1 (by simp [show refKind FieldType.byte = false from rfl]) (fun q => by have := (iI_lt (b := 0) Rs ⟨by omega, by omega⟩).mp q; omega) (fun q => by have := (iI_lt (b := 0) Rd ⟨by omega, by omega⟩).mp q; omega) (fun q => by have := (iI_lt (b := 0) Rn ⟨by omega, by omega⟩).mp q; omega)
    (by rw [iI_t Rs, iI_t Rn]; show ¬ _ > ((arrV (gB G) n0.toNat (fun j => .int (iI (f (j : Int))))).slots.size : Int); rw [arrV_size]; omega)
    (by rw [iI_t Rd, iI_t Rn]; show ¬ _ > ((arrV (gB G) n1.toNat (fun j => .int (iI (g (j : Int))))).slots.size : Int); rw [arrV_size]; omega)
    (fun vm₁ _ i hi => by
      have e : (vp_cell (gB G) (aI n0 f)).slots.getD (sp.toNat + i) .null = .int (iI (f ((sp.toNat + i : Nat) : Int))) := by
        show (arrV (gB G) n0.toNat (fun j => .int (iI (f (j : Int))))).slots.getD _ _ = _
        rw [Array.getD_eq_getD_getElem?, arrV_read _ _ (by omega)]
        rfl
      rw [ks]
      rw [kn] at hi
      rw [e]
      exact ⟨fits_b (hel _ (by omega) (by omega)), trivial⟩)
    (g := F0 m pc ls (.int (iI n) :: .int (iI dp) :: .ref a :: .int (iI sp) :: .ref a0 :: st)) rfl hl.1 (rest := st) rfl (by rw [hb]; exact d) hf (by show 2 * 0 + _ + _ ≤ _; omega)
  have e1 : copied (vp_cell (gB G) (aI n0 f)) (vp_cell (gB G) (aI n1 g)) (iI sp) (iI dp) (iI n) = vp_cell (gB G) (aI n1 (cpI f g sp dp n)) := by
    have e2 := va_copied (fun z => .int z) (gB G) (gB G) (n0 := n0.toNat) (n1 := n1.toNat) (sp := sp.toNat) (dp := dp.toNat) (n := n.toNat) (fun j : Nat => iI (f (j : Int))) (fun j : Nat => iI (g (j : Int))) (by omega)
    rw [cpI_cpy iI h5.1 h5.2.1 h5.2.2] at e2
    rw [← ks, ← kd, ← kn] at e2
    simp only [aI, vp_cell_i]
    exact e2
  rw [e1] at X' step
  have hlt : a < H.size := (Array.getElem?_eq_some_iff.mp hc1).1
  have hheap : ((T.setVm vm').setCell a (vp_cell (gB G) (aI n1 (cpI f g sp dp n)))).heap = H.setIfInBounds a (vp_cell (gB G) (aI n1 (cpI f g sp dp n))) := by rw [← hT]; rfl
  have oq : ∀ q : Nat, q ≠ a → (H.setIfInBounds a (vp_cell (gB G) (aI n1 (cpI f g sp dp n))))[q]? = H[q]? := fun q hq => by simp [Array.getElem?_setIfInBounds, Ne.symm hq]
  obtain ⟨t, a1, b1⟩ := kk _ _ ls (hR.put ha (by simp) oq (show (H.setIfInBounds a _)[a]? = some _ by simp [Array.getElem?_setIfInBounds, hlt])) (fun q hq => by
      rcases List.mem_append.mp hq with h | h
      · exact hL q h
      · obtain ⟨z, -, hz⟩ := List.mem_map.mp h
        rw [← hz]
        exact (hR.2.2 _ _ _ ha).1) hl _ hheap X'
  exact ⟨t, step t a1, b1⟩
set_option maxHeartbeats 1000000 in
theorem v_copyQ (C : Cx G p s m args meth c y cc nL ret ws) {idx a0 a t0 t1 : Nat} {n0 n1 sp dp n : Int} {f g : Int → Option Nat} {ci : Nat} {q : vw_C} (ha0 : w a0 = some (t0, .inl (gO G, aQ n0 f))) (ha : w a = some (t1, .inl (gO G, aQ n1 g))) (h1 : Cond.methodLink y.cls idx arraycopyName ∈ ws) (h2 : Cond.native arraycopyName ∈ ws) (h3 : Cond.static arraycopyName ∈ ws) (h4 : Cond.initialized "java/lang/System" ∈ ws) (h5 : 0 ≤ sp ∧ 0 ≤ dp ∧ 0 ≤ n) (h6 : sp + n ≤ n0 ∧ dp + n ≤ n1 ∧ n0 ≤ 60000000 ∧ n1 ≤ 60000000) (hel : ∀ j, sp ≤ j → j < sp + n → ∀ b, f j = some b → ∃ t vs, w b = some (t, .inr (ci, vs))) (hq : vwCl[ci]? = some q) (hca : (q.1, "java/lang/Object") ∈ kkC) (hf : 1 ≤ R.frames) (hlo : (st.map fun v => v.category).sum + (nativeFrameWords "java/lang/System" "arraycopy" 5 + 11) ≤ R.locals) (d : decode cc pc = .ok (.invokestatic idx, 3))
    (kk : V G p l e R s m args below meth c Q (updW w a (t1, .inl (gO G, aQ n1 (cpI f g sp dp n)))) k z (pc + 3) ll st) : V G p l e R s m args below meth c Q w k z pc ll (.int (iI n) :: .int (iI dp) :: .ref a :: .int (iI sp) :: .ref a0 :: st) := by
  intro H locs ls hR hL hl T hT X
  obtain ⟨hx, hb, hnl, hown, hts, -, -, hK, -⟩ := id C
  have hc0 : H[a0]? = some (vp_cell (gO G) (aQ n0 f)) := (hR.2.2 _ _ _ ha0).2
  have hc1 : H[a]? = some (vp_cell (gO G) (aQ n1 g)) := (hR.2.2 _ _ _ ha).2
  have Rs : R32 sp := ⟨by omega, by omega⟩
  have Rd : R32 dp := ⟨by omega, by omega⟩
  have Rn : R32 n := ⟨by omega, by omega⟩
  have ks := iI_clamp Rs
  have kd := iI_clamp Rd
  have kn := iI_clamp Rn
  obtain ⟨-, k0, hk0, cm0, hkk0⟩ := (hK.1.2 3 _ rfl).1 n0.toNat (fun j => va_rf (f (j : Int)))
  obtain ⟨-, k1, hk1, cm1, hkk1⟩ := (hK.1.2 3 _ rfl).1 n1.toNat (fun j => va_rf (g (j : Int)))
  obtain ⟨vm', X', step⟩ := X.arraycopy hx hown (hts _ h1) (hts _ h2) (hts _ h3) (hts _ h4) (src := a0) (dst := a) (cs := vp_cell (gO G) (aQ n0 f)) (cd := vp_cell (gO G) (aQ n1 g)) (srcPos := iI sp) (destPos := iI dp) (n := iI n) (by rw [hT]; exact hc0) (by rw [hT]; exact hc1)
    (fun _ h => by cases h) (fun _ h => by cases h) (fun h => by cases h) (fun h => by cases h) hk0 hk1 hkk0 hkk1 rfl (fun q => by have := (iI_lt (b := 0) Rs ⟨by omega, by omega⟩).mp q; omega) (fun q => by have := (iI_lt (b := 0) Rd ⟨by omega, by omega⟩).mp q; omega) (fun q => by have := (iI_lt (b := 0) Rn ⟨by omega, by omega⟩).mp q; omega)
    (by rw [iI_t Rs, iI_t Rn]; show ¬ _ > ((arrV (gO G) n0.toNat (fun j => va_rf (f (j : Int)))).slots.size : Int); rw [arrV_size]; omega)
    (by rw [iI_t Rd, iI_t Rn]; show ¬ _ > ((arrV (gO G) n1.toNat (fun j => va_rf (g (j : Int)))).slots.size : Int); rw [arrV_size]; omega)
    (fun vm₁ hal i hi => by
      have e : (vp_cell (gO G) (aQ n0 f)).slots.getD (sp.toNat + i) .null = va_rf (f ((sp.toNat + i : Nat) : Int)) := by
        show (arrV (gO G) n0.toNat (fun j => va_rf (f (j : Int)))).slots.getD _ _ = _
        rw [Array.getD_eq_getD_getElem?, arrV_read _ _ (by omega)]
        rfl
      rw [ks]
      rw [kn] at hi
      rw [e]
      cases hy : f ((sp.toNat + i : Nat) : Int) with
      | none => exact ⟨rfl, trivial⟩
      | some b =>
        obtain ⟨tb, vs, hb9⟩ := hel _ (by omega) (by omega) b hy
        obtain ⟨-, r', hr', cellV, g1, g2, g3, -⟩ := hR.2.2 _ _ _ hb9
        have hcls := (hK.1.1 ci q hq).2
        obtain ⟨kA, comp, r1, r2, r3, -⟩ := (hK.1.2 3 _ rfl).2
        cases hk1.symm.trans r1
        cases hkk1.symm.trans r2
        obtain ⟨c0, t1, f1, f2, f3⟩ := Cond.castable_spec (va_Nw.use (A := args) rfl (hK.2.1.2.2.2.2.1 _ hca))
        cases hcls.1.symm.trans f1
        cases r3.symm.trans f2
        obtain ⟨kC, hkC, -⟩ := hcls.2
        obtain ⟨kE, hkE, -⟩ := Vm.findClass_spec r3
        obtain ⟨kC', hkC', -⟩ := hal.2.2 _ _ hkC
        obtain ⟨kE', hkE', -⟩ := hal.2.2 _ _ hkE
        refine ⟨rfl, cellV, (show T.heap[b]? = some cellV by rw [hT]; exact g1), (fun q h => by rw [h] at g3; cases g3), ⟨kC', by rw [g2]; exact hkC'⟩, ?_, ?_⟩
        · exact ⟨kE', hkE'⟩
        · show vm₁.assignable _ _ = true
          rw [hal.assignable, g2]
          exact f3)
    (g := F0 m pc ls (.int (iI n) :: .int (iI dp) :: .ref a :: .int (iI sp) :: .ref a0 :: st)) rfl hl.1 (rest := st) rfl (by rw [hb]; exact d) hf (by show 2 * 0 + _ + _ ≤ _; omega)
  have e1 : copied (vp_cell (gO G) (aQ n0 f)) (vp_cell (gO G) (aQ n1 g)) (iI sp) (iI dp) (iI n) = vp_cell (gO G) (aQ n1 (cpI f g sp dp n)) := by
    have e2 := va_copied (fun z => va_rf z) (gO G) (gO G) (n0 := n0.toNat) (n1 := n1.toNat) (sp := sp.toNat) (dp := dp.toNat) (n := n.toNat) (fun j : Nat => (f (j : Int))) (fun j : Nat => (g (j : Int))) (by omega)
    rw [cpI_cpy (fun z => z) h5.1 h5.2.1 h5.2.2] at e2
    rw [← ks, ← kd, ← kn] at e2
    simp only [aQ, vp_cell_q]
    exact e2
  rw [e1] at X' step
  have hlt : a < H.size := (Array.getElem?_eq_some_iff.mp hc1).1
  have hheap : ((T.setVm vm').setCell a (vp_cell (gO G) (aQ n1 (cpI f g sp dp n)))).heap = H.setIfInBounds a (vp_cell (gO G) (aQ n1 (cpI f g sp dp n))) := by rw [← hT]; rfl
  have oq : ∀ q : Nat, q ≠ a → (H.setIfInBounds a (vp_cell (gO G) (aQ n1 (cpI f g sp dp n))))[q]? = H[q]? := fun q hq => by simp [Array.getElem?_setIfInBounds, Ne.symm hq]
  obtain ⟨t, a1, b1⟩ := kk _ _ ls (hR.put ha (by simp) oq (show (H.setIfInBounds a _)[a]? = some _ by simp [Array.getElem?_setIfInBounds, hlt])) (fun q hq => by
      rcases List.mem_append.mp hq with h | h
      · exact hL q h
      · obtain ⟨z, -, hz⟩ := List.mem_map.mp h
        rw [← hz]
        exact (hR.2.2 _ _ _ ha).1) hl _ hheap X'
  exact ⟨t, step t a1, b1⟩
theorem v_ldcM (C : Cx G p s m args meth c y cc nL ret ws) {idx : Nat} (h1 : Cond.classLink y.cls idx "[Ljava/lang/Object;" ∈ ws) (d : decode cc pc = .ok (.ldc idx, 2)) (kk : V G p l e R s m args below meth c Q w k z (pc + 2) ll (.ref (gMi G) :: st)) : V G p l e R s m args below meth c Q w k z pc ll st := by
  intro H locs ls hR hL hl
  obtain ⟨hx, hb, hnl, hown, hts, -, -, hK, -⟩ := id C
  exact va_ldcM hx hb hown (hts _ h1) hK.2.1.2.2.2.2.2.1.1 d (kk H locs ls hR hL hl)
def getCl : MethodName := ⟨"java/lang/Object", "getClass", "()Ljava/lang/Class;"⟩
theorem v_getC (C : Cx G p s m args meth c y cc nL ret ws) {idx a t : Nat} {n : Int} {g : Int → Option Nat} (ha : w a = some (t, .inl (gO G, aQ n g))) (h1 : Cond.methodLink y.cls idx getCl ∈ ws) (h2 : Cond.selects "[Ljava/lang/Object;" getCl getCl ∈ ws) (h3 : Cond.instanceMethod getCl ∈ ws) (h4 : Cond.native getCl ∈ ws) (hf : 1 ≤ R.frames) (hlo : (st.map fun v => v.category).sum + 14 ≤ R.locals) (d : decode cc pc = .ok (.invokevirtual idx, 3)) (kk : V G p l e R s m args below meth c Q w k z (pc + 3) ll (.ref (gMi G) :: st)) : V G p l e R s m args below meth c Q w k z pc ll (.ref a :: st) := by
  intro H locs ls hR hL hl
  obtain ⟨hx, hb, hnl, hown, hts, -, -, hK, -⟩ := id C
  have h8 : s.vm.findClass "[Ljava/lang/Object;" = some (gO G) := va_nmO (C := "java/lang/Object") (hK.1.2 3 _ rfl).2 (by decide)
  exact va_getC hx hb hl.1.symm hown (hts _ h1) hK.2.1.2.2.2.2.2.1.2.1.use (hts _ h2) (hts _ h3) (hts _ h4) hK.2.1.2.2.2.2.2.1.1 ⟨_, (hR.2.2 _ _ _ ha).2, rfl, h8⟩ hf hlo d (kk H locs ls hR hL hl)
theorem v_tblO (C : Cx G p s m args meth c y cc nL ret ws) {x dflt lo hi : Int} {offs : Array Int} {len tgt : Nat} (hx : R32 x) (d : decode cc pc = .ok (.tableswitch dflt lo hi offs, len)) (h : x < lo ∨ hi < x) (ht : (pc : Int) + dflt = (tgt : Int)) (kk : V G p l e R s m args below meth c Q w k z tgt ll st) : V G p l e R s m args below meth c Q w k z pc ll (.int (iI x) :: st) := by
  intro H locs ls hR hL hl
  exact lv_tableOut C.1 C.2.1 d (by rw [iI_t hx]; exact h) ht (kk H locs ls hR hL hl)
theorem v_tblI (C : Cx G p s m args meth c y cc nL ret ws) {x dflt lo hi off : Int} {offs : Array Int} {len tgt : Nat} (hx : R32 x) (d : decode cc pc = .ok (.tableswitch dflt lo hi offs, len)) (h1 : lo ≤ x) (h2 : x ≤ hi) (ho : offs[(x - lo).toNat]? = some off) (ht : (pc : Int) + off = (tgt : Int)) (kk : V G p l e R s m args below meth c Q w k z tgt ll st) : V G p l e R s m args below meth c Q w k z pc ll (.int (iI x) :: st) := by
  intro H locs ls hR hL hl
  exact lv_tableIn C.1 C.2.1 d (by rw [iI_t hx]; omega) (by rw [iI_t hx]; omega) (by rw [iI_t hx]; exact ho) ht (kk H locs ls hR hL hl)
theorem v_goW {w2 : Wd} (h : ∀ a, w2 a = w a) (kk : V G p l e R s m args below meth c Q w2 k z pc ll st) : V G p l e R s m args below meth c Q w k z pc ll st := by
  have e : w2 = w := funext h
  rw [e] at kk
  exact kk
/-! methods that return or throw -/
def xX (G : GG) (px : String → Wd → Prop) : String → State → State → Prop := fun E _ t => ∃ w', px E w' ∧ Rep G w' t.heap
def MX (G : GG) (l : Launch) (y : MethodName) (ws : List Cond) (F L mc ms : Nat) (av : List Value) (w : Wd) (post : Option Value → Wd → Prop) (px : String → Wd → Prop) : Prop :=
  vx_Met l y ws { frames := F, cells := mc, slots := ms, locals := L } (PcW G av w) (vQ G post) (xX G px) mc ms (gF G)
abbrev MXQ (G : GG) (below : List Frame) (args : Array Value) (s : State) (mc ms : Nat) (post : Option Value → Wd → Prop) (px : String → Wd → Prop) : State → Prop := vx_MQ below (vQ G post) (xX G px) args s mc ms (gF G)
theorem MX.of {ws' : List Cond} {F L mc ms : Nat} {av : List Value} {post : Option Value → Wd → Prop} {px : String → Wd → Prop} (hy : plainName y.cls = true) (hw : ws = Cond.code y cc nL ret :: ws') (hlen : (lg_sl av).length ≤ nL) (hll : llOf av nL = ll)
    (body : ∀ (p : Program) (e : Env) (s : State) (m : MethodId) (args : Array Value) (below : List Frame) (meth : Method) (c : Code), Cx G p s m args meth c y cc nL ret ws → (∀ x ∈ c.exceptionTable.toList, False) → Rep G w s.heap → V G p l e { frames := F, cells := mc, slots := ms, locals := L } s m args below meth c (MXQ G below args s mc ms post px) w 0 0 0 ll []) : MX G l y ws F L mc ms av w post px := by
  refine vx_ofW (cc := cc) (maxL := nL) (ret := ret) hy hw ?_
  intro p e s m args below meth c s₁ B hml htab hv
  obtain ⟨rfl, hR, hK⟩ := hv
  have hl := lv_entry av (n := nL) hlen
  rw [lg_entry_eq]
  refine body p e s m _ below meth c ⟨B.exec, B.bytes, hml, findClass_of_methodNamed B.named, atoms_spec (ws := ws) B.pre, B.returns, B.notSynchronized, hK, (name_of_methodNamed B.named B.method).1⟩ htab hR s.heap [] _ hR (fun q h => nomatch h) ⟨by rw [hml]; exact hl.1, hl.2.1, fun i v hi => ?_⟩
  rw [← hll] at hi
  have := llOf_spec av nL i 0 v hi
  rw [Nat.zero_add] at this
  exact hl.2.2 (i, v) this
theorem v_x {mc ms : Nat} {post : Option Value → Wd → Prop} {px : String → Wd → Prop} (kk : V G p l e R s m args below meth c (MQW G below args s mc ms post) w k z pc ll st) : V G p l e R s m args below meth c (MXQ G below args s mc ms post px) w k z pc ll st := by
  intro H locs ls hR hL hl
  exact vx_ret (kk H locs ls hR hL hl)
def exN : List String := ["java/lang/RuntimeException", "java/lang/Exception"]
theorem v_throw (C : Cx G p s m args meth c y cc nL ret ws) {w0 : Wd} (hfl : l.stackTraces = false) (h0 : Rep G w0 s.heap) (htab : ∀ x ∈ c.exceptionTable.toList, False) {cls text : String} {ik is ic mc ms : Nat} {post : Option Value → Wd → Prop} {px : String → Wd → Prop} (hcn : y.cls = "TraceBook") (hcls : Bundle.fit cls = true) (hk : Cond.classLink "TraceBook" ik cls ∈ ws) (hini : Cond.initialized cls ∈ ws) (htx : (is, text) ∈ kkS) (hat : ∀ w ∈ (vx_atS "TraceBook" ic cls exN).filter goodWord, w ∈ ws)
    (hat2 : (vx_atS "TraceBook" ic cls exN).filter (fun w => !goodWord w) = [.declares ⟨"java/lang/RuntimeException", "<init>", "(Ljava/lang/String;)V"⟩, .declares ⟨"java/lang/Exception", "<init>", "(Ljava/lang/String;)V"⟩, .declares ⟨"java/lang/Throwable", "<init>", "(Ljava/lang/String;)V"⟩, .castable cls cls]) (hca : (cls, cls) ∈ kkC)
    (hgood : (Cond.classLink "TraceBook" ik cls :: Cond.initialized cls :: vx_atS "TraceBook" ic cls exN).all vx_ot = true)
    (d0 : decode cc pc = .ok (.new ik, 3)) (d3 : decode cc (pc + 3) = .ok (.dup, 1)) (d4 : decode cc (pc + 4) = .ok (.ldc is, 2)) (d6 : decode cc (pc + 6) = .ok (.invokespecial ic, 3)) (d9 : decode cc (pc + 9) = .ok (.athrow, 1))
    (hf : 6 ≤ R.frames) (hlo : (st.map fun v => v.category).sum + 82 ≤ R.locals) (hRc : k + 1 ≤ R.cells) (hRs : z + 6 ≤ R.slots) (hc : k + 1 ≤ mc) (hs : z + 6 ≤ ms) (hp : px cls w) : V G p l e R s m args below meth c (MXQ G below args s mc ms post px) w k z pc ll st := by
  intro H locs ls hR hL hl T hT X
  obtain ⟨hx, hb, hnl, hown, hts, -, hlk, hK, -⟩ := id C
  rw [hcn] at hown
  obtain ⟨sa, hsa⟩ := hK.2.2.1 _ htx
  have hsz : s.heap.size ≤ H.size := by
    have h9 := X.same.2.1
    rw [← hT]
    exact h9
  have hgN : gN G = (gH G).size := hK.2.1.2.2.2.1
  have hkp : ∀ a : Nat, a < (gH G).size → ¬ gF G a → s.heap[a]? = (gH G)[a]? := fun a ha _ => h0.2.1 a (by rw [hgN]; exact ha)
  have hU : vx_Zq Bundle.tN "UNASSIGNED_STACK" Bundle.steD (gF G) s s.heap := hK.2.1.2.2.1.1.kept hkp
  have hN : vx_Zq Bundle.tN "SUPPRESSED_SENTINEL" Bundle.listD (gF G) s s.heap := hK.2.1.2.2.1.2.kept hkp
  have hS : va_S (gF G) s.heap H locs := ⟨hsz, fun q hq hn => by
    have hlt : q < gN G := Nat.lt_of_not_le hn
    rw [hR.2.1 q hlt, h0.2.1 q hlt], hL⟩
  refine vx_throwS (text := text) (names := exN) hx hb hfl hown hcls (by decide) (hts _ hk) (hts _ hini) hsa (vx_hat (B := (vx_atS "TraceBook" ic cls exN).filter (fun w => !goodWord w)) (fun w hw => hts w (hat w hw)) (fun w hw => hw) ?_) (fun w hw => List.all_eq_true.mp hgood w hw) hU hN hS hl.1 d0 d3 d4 d6 d9 (fun x hx => (htab x hx).elim) (by show 2 + 3 < _; omega) (by show _ + (13 * (2 + 1) + 43) ≤ _; omega) hRc hRs hlk ?_ hL hc hs T hT X
  · rw [hat2]
    have hD := hK.2.1.2.2.2.2.2.2.2
    refine vx_c (va_Nw.use rfl (hD _ List.mem_cons_self)) (vx_c (va_Nw.use rfl (hD _ (List.mem_cons_of_mem _ List.mem_cons_self))) (vx_c (va_Nw.use rfl (hD _ (List.mem_cons_of_mem _ (List.mem_cons_of_mem _ List.mem_cons_self)))) (vx_c (va_Nw.use rfl (hK.2.1.2.2.2.2.1 _ hca)) vx_n)))
  · exact fun t _ h1 h2 => ⟨w, hp, hR.more h1 h2⟩
theorem v_upd {a t : Nat} {e0 x : va_E} (ha : w a = some (t, e0)) (kk : ∀ w' : Wd, w' a = some (t, x) → Fr (fun q => q = t) w w' → (∀ b, b ≠ a → w' b = w b) → V G p l e R s m args below meth c Q w' k z pc ll st) : V G p l e R s m args below meth c Q (updW w a (t, x)) k z pc ll st :=
  kk _ (updW_eq _ _ _) (Fr.put ha rfl) (fun _ h => updW_ne h)
theorem v_fresh {a : Nat} {x : Nat × va_E} (ha : w a = none) (kk : ∀ w' : Wd, w' a = some x → Fr (fun _ => False) w w' → (∀ b, b ≠ a → w' b = w b) → V G p l e R s m args below meth c Q w' k z pc ll st) : V G p l e R s m args below meth c Q (updW w a x) k z pc ll st :=
  kk _ (updW_eq _ _ _) (Fr.new ha) (fun _ h => updW_ne h)
theorem v_retag {a t : Nat} {e0 : va_E} (ha : w a = some (t, e0)) (t2 : Nat) (kk : ∀ w' : Wd, w' a = some (t2, e0) → Fr (fun q => q = t) w w' → (∀ b, b ≠ a → w' b = w b) → V G p l e R s m args below meth c Q w' k z pc ll st) : V G p l e R s m args below meth c Q w k z pc ll st := by
  intro H locs ls hR hL hl
  have hR2 : Rep G (updW w a (t2, e0)) H := ⟨hR.1, hR.2.1, fun b t' e' hb => by
    by_cases q : b = a
    · subst q
      rw [updW_eq] at hb
      cases hb
      exact hR.2.2 _ _ _ ha
    · rw [updW_ne q] at hb
      exact hR.2.2 _ _ _ hb⟩
  exact kk _ (updW_eq _ _ _) (Fr.put ha rfl) (fun _ h => updW_ne h) H locs ls hR2 hL hl
theorem v_oret (C : Cx G p s m args meth c y cc nL ret ws) {mc ms : Nat} {post : Option Nat → Wd → Prop} {x : Option Nat} {rt : FieldType} (hr : ret = some rt) (hrt : (∃ n, rt = .object n) ∨ ∃ t, rt = .array t) (d : decode cc pc = .ok (.areturn, 1)) (hk : k ≤ mc) (hz : z ≤ ms) (hp : post x w) : V G p l e R s m args below meth c (MQW G below args s mc ms (pR post)) w k z pc ll [va_rf x] := by
  cases x with
  | none => exact v_aretN C hr hrt d hk hz hp
  | some x => exact v_aret C hr hrt d hk hz hp
theorem v_aloadO (C : Cx G p s m args meth c y cc nL ret ws) {i : Nat} {x : Option Nat} (d : decode cc pc = .ok (.aload i, 2)) (h : ll[i]? = some (some (va_rf x))) (kk : V G p l e R s m args below meth c Q w k z (pc + 2) ll (va_rf x :: st)) : V G p l e R s m args below meth c Q w k z pc ll st := by
  cases x with
  | none => exact v_aloadN C d h kk
  | some x => exact v_aload C d h kk
theorem v_aload_nO (C : Cx G p s m args meth c y cc nL ret ws) {i : Fin 4} {x : Option Nat} (d : decode cc pc = .ok (.aload_n i, 1)) (h : ll[(i : Nat)]? = some (some (va_rf x))) (kk : V G p l e R s m args below meth c Q w k z (pc + 1) ll (va_rf x :: st)) : V G p l e R s m args below meth c Q w k z pc ll st := by
  cases x with
  | none => exact v_aload_nN C d h kk
  | some x => exact v_aload_n C d h kk
theorem poIX {P : (Int → Wd → Prop) → (String → Wd → Prop) → Prop} {post : Int → Wd → Prop} {px : String → Wd → Prop} (h : ∀ (PO : Int → Wd → Prop) (PX : String → Wd → Prop), (∀ x w', post x w' → PO x w') → (∀ x w', px x w' → PX x w') → P PO PX) : P post px := h post px (fun _ _ h => h) (fun _ _ h => h)
theorem poVX {P : (Wd → Prop) → (String → Wd → Prop) → Prop} {post : Wd → Prop} {px : String → Wd → Prop} (h : ∀ (PO : Wd → Prop) (PX : String → Wd → Prop), (∀ w', post w' → PO w') → (∀ x w', px x w' → PX x w') → P PO PX) : P post px := h post px (fun _ h => h) (fun _ _ h => h)
end VB2
