section VLR
variable {G : GG} {p : Program} {l : Launch} {e : Env} {R : Room} {s : State} {m : MethodId} {args : Array Value} {below : List Frame} {meth : Method} {c : Code} {Q : State → Prop} {y : MethodName} {cc : ByteArray} {nL : Nat} {ret : Option FieldType} {ws : List Cond} {w : Wd} {k z pc : Nat} {ll : List (Option Value)} {st : List Value}
/-- an exception of class E over this method's frame at pc -/
def VX (G : GG) (p : Program) (l : Launch) (e : Env) (R : Room) (s : State) (m : MethodId) (args : Array Value) (below : List Frame) (meth : Method) (c : Code) (Q : State → Prop) (w : Wd) (k z pc : Nat) (ll : List (Option Value)) (E : String) : Prop :=
  ∀ (H : Heap) (locs : List Loc) (ls : Array Slot) (rest : List Value) (q : Addr) (ce : Cell), Rep G w H → (∀ q ∈ locs, gN G ≤ q.base) → lvP ls c.maxLocals ll → H[q]? = some ce → ce.vm = .none → s.vm.findClass E = some ce.cls → vx_W p l e R s m args below meth c H locs k z Q (F0 m pc ls rest) q
theorem v_callXi (C : Cx G p s m args meth c y cc nL ret ws) {y2 : MethodName} {bytes : ByteArray} {maxL mc ms n index F L : Nat} {ret2 : Option FieldType} {ws2 : List Cond} {b t ci : Nat} {fs : List Value} {q : vw_C} {As rest : List Value} {post : Int → Wd → Prop} {px : String → Wd → Prop} (hM : MX G l y2 ws2 F L mc ms (.ref b :: As) w (pI post) px) (cw : CallW R s args y.cls q.1 index y2 bytes maxL ret2 ws2 { frames := F, cells := mc, slots := ms, locals := L } mc ms n) (hb : w b = some (t, .inr (ci, fs))) (hq : vwCl[ci]? = some q) (hn : As.length = n) (hst : st = As.reverse ++ .ref b :: rest) (hW : (rest.map fun v => v.category).sum ≤ 8) (d : decode cc pc = .ok (.invokevirtual index, 3)) (hk : k + mc ≤ R.cells) (hz : z + ms ≤ R.slots)
    (kx : ∀ (E : String) (w' : Wd), px E w' → VX G p l e R s m args below meth c Q w' (k + mc) (z + ms) pc ll E) (kk : ∀ (x : Int) (w' : Wd), post x w' → V G p l e R s m args below meth c Q w' (k + mc) (z + ms) (pc + 3) ll (.int (iI x) :: rest)) : V G p l e R s m args below meth c Q w k z pc ll st := by
  intro H locs ls hR hL hl T hT X
  obtain ⟨hx, hb2, hnl, hown, hts, -, -, hK, -⟩ := id C
  have hr := vx_runV (below := below) (meth := meth) (l := l) (e := e) (R := R) (locs := locs) (cells := k) (slots := z) (g := F0 m pc ls st) (As := As) (rest := rest) ⟨hx, hb2, hnl, hown, hts⟩ hM cw ⟨PcW.blind, by
      obtain ⟨-, r', hr', cellV, g1, g2, g3, -⟩ := hR.2.2 _ _ _ hb
      exact ⟨cellV, g1, by rw [g3]; rfl, by rw [g2]; exact (hK.1.1 ci q hq).2.1⟩, fun U hU hWa => ⟨rfl, by rw [hU]; exact hR, KK.warm hWa hK⟩⟩ rfl hn (hl.1.trans hnl) hst (by show 2 * 0 + _ ≤ 8; omega) d ⟨hk, hz⟩
  rcases hr T hT X with ⟨v, st₀, t9, T', L9, h0, X', hL2, e1, e2, ⟨v', w', hv, hp, hR2, hK2⟩, sg⟩ | ⟨q9, st₀, t9, T', L9, E, ce, h0, X', hL2, e1, e2, ⟨w', hp, hR2⟩, hce, hcv, hcl, sg⟩
  · cases hv
    obtain ⟨x, rfl, hp⟩ := hp
    obtain ⟨t2, a1, b1⟩ := kk x w' hp T'.heap (locs ++ L9) ls (by rw [e1]; exact hR2) (fun q hq => by
      rcases List.mem_append.mp hq with h | h
      · exact hL q h
      · exact hL2 q h) hl T' rfl X'
    exact ⟨t2, sg t2 a1, b1⟩
  · obtain ⟨t2, a1, b1⟩ := kx E w' hp T'.heap (locs ++ L9) ls rest q9 ce (by rw [e1]; exact hR2) (fun q hq => by
      rcases List.mem_append.mp hq with h | h
      · exact hL q h
      · exact hL2 q h) hl (by rw [e1]; exact hce) hcv hcl T' rfl X'
    exact ⟨t2, sg.trans a1, b1⟩
theorem v_callXl (C : Cx G p s m args meth c y cc nL ret ws) {y2 : MethodName} {bytes : ByteArray} {maxL mc ms n index F L : Nat} {ret2 : Option FieldType} {ws2 : List Cond} {b t ci : Nat} {fs : List Value} {q : vw_C} {As rest : List Value} {post : Int → Wd → Prop} {px : String → Wd → Prop} (hM : MX G l y2 ws2 F L mc ms (.ref b :: As) w (pL post) px) (cw : CallW R s args y.cls q.1 index y2 bytes maxL ret2 ws2 { frames := F, cells := mc, slots := ms, locals := L } mc ms n) (hb : w b = some (t, .inr (ci, fs))) (hq : vwCl[ci]? = some q) (hn : As.length = n) (hst : st = As.reverse ++ .ref b :: rest) (hW : (rest.map fun v => v.category).sum ≤ 8) (d : decode cc pc = .ok (.invokevirtual index, 3)) (hk : k + mc ≤ R.cells) (hz : z + ms ≤ R.slots)
    (kx : ∀ (E : String) (w' : Wd), px E w' → VX G p l e R s m args below meth c Q w' (k + mc) (z + ms) pc ll E) (kk : ∀ (x : Int) (w' : Wd), post x w' → V G p l e R s m args below meth c Q w' (k + mc) (z + ms) (pc + 3) ll (.long (lI x) :: rest)) : V G p l e R s m args below meth c Q w k z pc ll st := by
  intro H locs ls hR hL hl T hT X
  obtain ⟨hx, hb2, hnl, hown, hts, -, -, hK, -⟩ := id C
  have hr := vx_runV (below := below) (meth := meth) (l := l) (e := e) (R := R) (locs := locs) (cells := k) (slots := z) (g := F0 m pc ls st) (As := As) (rest := rest) ⟨hx, hb2, hnl, hown, hts⟩ hM cw ⟨PcW.blind, by
      obtain ⟨-, r', hr', cellV, g1, g2, g3, -⟩ := hR.2.2 _ _ _ hb
      exact ⟨cellV, g1, by rw [g3]; rfl, by rw [g2]; exact (hK.1.1 ci q hq).2.1⟩, fun U hU hWa => ⟨rfl, by rw [hU]; exact hR, KK.warm hWa hK⟩⟩ rfl hn (hl.1.trans hnl) hst (by show 2 * 0 + _ ≤ 8; omega) d ⟨hk, hz⟩
  rcases hr T hT X with ⟨v, st₀, t9, T', L9, h0, X', hL2, e1, e2, ⟨v', w', hv, hp, hR2, hK2⟩, sg⟩ | ⟨q9, st₀, t9, T', L9, E, ce, h0, X', hL2, e1, e2, ⟨w', hp, hR2⟩, hce, hcv, hcl, sg⟩
  · cases hv
    obtain ⟨x, rfl, hp⟩ := hp
    obtain ⟨t2, a1, b1⟩ := kk x w' hp T'.heap (locs ++ L9) ls (by rw [e1]; exact hR2) (fun q hq => by
      rcases List.mem_append.mp hq with h | h
      · exact hL q h
      · exact hL2 q h) hl T' rfl X'
    exact ⟨t2, sg t2 a1, b1⟩
  · obtain ⟨t2, a1, b1⟩ := kx E w' hp T'.heap (locs ++ L9) ls rest q9 ce (by rw [e1]; exact hR2) (fun q hq => by
      rcases List.mem_append.mp hq with h | h
      · exact hL q h
      · exact hL2 q h) hl (by rw [e1]; exact hce) hcv hcl T' rfl X'
    exact ⟨t2, sg.trans a1, b1⟩
theorem v_callXv (C : Cx G p s m args meth c y cc nL ret ws) {y2 : MethodName} {bytes : ByteArray} {maxL mc ms n index F L : Nat} {ret2 : Option FieldType} {ws2 : List Cond} {b t ci : Nat} {fs : List Value} {q : vw_C} {As rest : List Value} {post : Wd → Prop} {px : String → Wd → Prop} (hM : MX G l y2 ws2 F L mc ms (.ref b :: As) w (pV post) px) (cw : CallW R s args y.cls q.1 index y2 bytes maxL ret2 ws2 { frames := F, cells := mc, slots := ms, locals := L } mc ms n) (hb : w b = some (t, .inr (ci, fs))) (hq : vwCl[ci]? = some q) (hn : As.length = n) (hst : st = As.reverse ++ .ref b :: rest) (hW : (rest.map fun v => v.category).sum ≤ 8) (d : decode cc pc = .ok (.invokevirtual index, 3)) (hk : k + mc ≤ R.cells) (hz : z + ms ≤ R.slots)
    (kx : ∀ (E : String) (w' : Wd), px E w' → VX G p l e R s m args below meth c Q w' (k + mc) (z + ms) pc ll E) (kk : ∀ (w' : Wd), post w' → V G p l e R s m args below meth c Q w' (k + mc) (z + ms) (pc + 3) ll rest) : V G p l e R s m args below meth c Q w k z pc ll st := by
  intro H locs ls hR hL hl T hT X
  obtain ⟨hx, hb2, hnl, hown, hts, -, -, hK, -⟩ := id C
  have hr := vx_runV (below := below) (meth := meth) (l := l) (e := e) (R := R) (locs := locs) (cells := k) (slots := z) (g := F0 m pc ls st) (As := As) (rest := rest) ⟨hx, hb2, hnl, hown, hts⟩ hM cw ⟨PcW.blind, by
      obtain ⟨-, r', hr', cellV, g1, g2, g3, -⟩ := hR.2.2 _ _ _ hb
      exact ⟨cellV, g1, by rw [g3]; rfl, by rw [g2]; exact (hK.1.1 ci q hq).2.1⟩, fun U hU hWa => ⟨rfl, by rw [hU]; exact hR, KK.warm hWa hK⟩⟩ rfl hn (hl.1.trans hnl) hst (by show 2 * 0 + _ ≤ 8; omega) d ⟨hk, hz⟩
  rcases hr T hT X with ⟨v, st₀, t9, T', L9, h0, X', hL2, e1, e2, ⟨v', w', hv, hp, hR2, hK2⟩, sg⟩ | ⟨q9, st₀, t9, T', L9, E, ce, h0, X', hL2, e1, e2, ⟨w', hp, hR2⟩, hce, hcv, hcl, sg⟩
  · cases hv
    obtain ⟨rfl, hp⟩ := hp
    obtain ⟨t2, a1, b1⟩ := kk w' hp T'.heap (locs ++ L9) ls (by rw [e1]; exact hR2) (fun q hq => by
      rcases List.mem_append.mp hq with h | h
      · exact hL q h
      · exact hL2 q h) hl T' rfl X'
    exact ⟨t2, sg t2 a1, b1⟩
  · obtain ⟨t2, a1, b1⟩ := kx E w' hp T'.heap (locs ++ L9) ls rest q9 ce (by rw [e1]; exact hR2) (fun q hq => by
      rcases List.mem_append.mp hq with h | h
      · exact hL q h
      · exact hL2 q h) hl (by rw [e1]; exact hce) hcv hcl T' rfl X'
    exact ⟨t2, sg.trans a1, b1⟩
theorem v_catch0 (C : Cx G p s m args meth c y cc nL ret ws) {E : String} {sp ep hpc ct : Nat} {hh : List (Nat × Nat × Nat × Nat)} (htab : c.exceptionTable.toList = tableOf ((sp, ep, hpc, ct) :: hh)) (hcov : sp ≤ pc ∧ pc < ep) (h0 : ct ≠ 0) (hlink : Cond.classLink y.cls ct E ∈ ws) (hca : (E, E) ∈ kkC) (kk : ∀ q : Nat, V G p l e R s m args below meth c Q w k z hpc ll [.ref q]) : VX G p l e R s m args below meth c Q w k z pc ll E := by
  intro H locs ls rest q ce hR hL hl hce hcv hcl
  have hK := C.2.2.2.2.2.2.2.1
  exact vx_catch C.2.2.2.1 [] ⟨sp, ep, hpc, ct⟩ (tableOf hh) htab (fun z hz => by cases hz) (by show (decide (sp ≤ pc) && decide (pc < ep)) = true; rw [decide_eq_true hcov.1, decide_eq_true hcov.2]; rfl) h0 (C.2.2.2.2.1 _ hlink) (va_Nw.use (A := args) rfl (hK.2.1.2.2.2.2.1 _ hca)) hce hcv hcl (kk q H locs ls hR hL hl)
theorem v_catch1 (C : Cx G p s m args meth c y cc nL ret ws) {E : String} {sp ep hpc ct : Nat} {a0 b0 u0 t0 : Nat} {N0 : String} {hh : List (Nat × Nat × Nat × Nat)} (htab : c.exceptionTable.toList = tableOf ((a0, b0, u0, t0) :: (sp, ep, hpc, ct) :: hh)) (hcov : sp ≤ pc ∧ pc < ep) (h0 : ct ≠ 0) (hlink : Cond.classLink y.cls ct E ∈ ws) (hca : (E, E) ∈ kkC) (hz0 : t0 ≠ 0) (hl0 : Cond.classLink y.cls t0 N0 ∈ ws) (hn0 : (E, N0) ∈ kkN) (kk : ∀ q : Nat, V G p l e R s m args below meth c Q w k z hpc ll [.ref q]) : VX G p l e R s m args below meth c Q w k z pc ll E := by
  intro H locs ls rest q ce hR hL hl hce hcv hcl
  have hK := C.2.2.2.2.2.2.2.1
  exact vx_catch C.2.2.2.1 [⟨a0, b0, u0, t0⟩] ⟨sp, ep, hpc, ct⟩ (tableOf hh) htab (fun z hz => by
    simp only [List.mem_cons, List.not_mem_nil, or_false] at hz
    subst hz
    exact Or.inr ⟨hz0, N0, C.2.2.2.2.1 _ hl0, hK.2.1.2.2.2.2.2.2.1 _ hn0⟩) (by show (decide (sp ≤ pc) && decide (pc < ep)) = true; rw [decide_eq_true hcov.1, decide_eq_true hcov.2]; rfl) h0 (C.2.2.2.2.1 _ hlink) (va_Nw.use (A := args) rfl (hK.2.1.2.2.2.2.1 _ hca)) hce hcv hcl (kk q H locs ls hR hL hl)
theorem v_catch2 (C : Cx G p s m args meth c y cc nL ret ws) {E : String} {sp ep hpc ct : Nat} {a0 b0 u0 t0 : Nat} {N0 : String} {a1 b1 u1 t1 : Nat} {N1 : String} {hh : List (Nat × Nat × Nat × Nat)} (htab : c.exceptionTable.toList = tableOf ((a0, b0, u0, t0) :: (a1, b1, u1, t1) :: (sp, ep, hpc, ct) :: hh)) (hcov : sp ≤ pc ∧ pc < ep) (h0 : ct ≠ 0) (hlink : Cond.classLink y.cls ct E ∈ ws) (hca : (E, E) ∈ kkC) (hz0 : t0 ≠ 0) (hl0 : Cond.classLink y.cls t0 N0 ∈ ws) (hn0 : (E, N0) ∈ kkN) (hz1 : t1 ≠ 0) (hl1 : Cond.classLink y.cls t1 N1 ∈ ws) (hn1 : (E, N1) ∈ kkN) (kk : ∀ q : Nat, V G p l e R s m args below meth c Q w k z hpc ll [.ref q]) : VX G p l e R s m args below meth c Q w k z pc ll E := by
  intro H locs ls rest q ce hR hL hl hce hcv hcl
  have hK := C.2.2.2.2.2.2.2.1
  exact vx_catch C.2.2.2.1 [⟨a0, b0, u0, t0⟩, ⟨a1, b1, u1, t1⟩] ⟨sp, ep, hpc, ct⟩ (tableOf hh) htab (fun z hz => by
    simp only [List.mem_cons, List.not_mem_nil, or_false] at hz
    rcases hz with rfl | rfl
    · exact Or.inr ⟨hz0, N0, C.2.2.2.2.1 _ hl0, hK.2.1.2.2.2.2.2.2.1 _ hn0⟩
    · exact Or.inr ⟨hz1, N1, C.2.2.2.2.1 _ hl1, hK.2.1.2.2.2.2.2.2.1 _ hn1⟩) (by show (decide (sp ≤ pc) && decide (pc < ep)) = true; rw [decide_eq_true hcov.1, decide_eq_true hcov.2]; rfl) h0 (C.2.2.2.2.1 _ hlink) (va_Nw.use (A := args) rfl (hK.2.1.2.2.2.2.1 _ hca)) hce hcv hcl (kk q H locs ls hR hL hl)
theorem MG.ofH {ws' : List Cond} {hh : List (Nat × Nat × Nat × Nat)} {F L mc ms : Nat} {av : List Value} {post : Option Value → Wd → Prop} (hy : plainName y.cls = true) (hw : ws = Cond.codeWith y cc nL ret hh :: ws') (hlen : (lg_sl av).length ≤ nL) (hll : llOf av nL = ll)
    (body : ∀ (p : Program) (e : Env) (s : State) (m : MethodId) (args : Array Value) (below : List Frame) (meth : Method) (c : Code), Cx G p s m args meth c y cc nL ret ws → c.exceptionTable.toList = tableOf hh → V G p l e { frames := F, cells := mc, slots := ms, locals := L } s m args below meth c (MQW G below args s mc ms post) w 0 0 0 ll []) : MG G l y ws F L mc ms av w post := by
  unfold MG Met
  refine MetFree.of_bodyS (code := cc) (maxLocals := nL) (ret := ret) hy ?_ ?_
  · intro args s m h hn
    obtain ⟨m9, meth, c, hn9, h1, h2, h3, h4, -, h5, h6, -⟩ := Cond.codeWith_spec (atoms_spec (ws := ws) h _ (by rw [hw]; exact List.mem_cons_self))
    cases hn.symm.trans hn9
    exact ⟨meth, c, h1, h2, h3, h4, h5, h6⟩
  · intro p e s m args below meth c s₁ B hml hP _
    have hh0 : s₁.heap = s.heap := by rw [B.state]; rfl
    obtain ⟨rfl, hR, hK⟩ := hP
    have htab := vx_table (x := y) (bytes := cc) (maxL' := nL) (ret' := ret) (hh := hh) (y := y) B (atoms_spec (ws := ws) B.pre _ (by rw [hw]; exact List.mem_cons_self))
    have hl := lv_entry av (n := nL) hlen
    have K : W p l e (headSpec ws { frames := F, cells := mc, slots := ms, locals := L }).room s m av.toArray below meth c s.heap [] 0 0 (MQW G below av.toArray s mc ms post) (entryFrame m av.toArray nL) := by
      rw [lg_entry_eq]
      refine body p e s m _ below meth c ⟨B.exec, B.bytes, hml, findClass_of_methodNamed B.named, atoms_spec (ws := ws) B.pre, B.returns, B.notSynchronized, hK, (name_of_methodNamed B.named B.method).1⟩ htab s.heap [] _ hR (fun q h => nomatch h) ⟨by rw [hml]; exact hl.1, hl.2.1, fun i v hi => ?_⟩
      rw [← hll] at hi
      have := llOf_spec av nL i 0 v hi
      rw [Nat.zero_add] at this
      exact hl.2.2 (i, v) this
    obtain ⟨t, a1, o, b1, b2, b3⟩ := K s₁ hh0 (Stand.of_body B)
    exact ⟨t, o, a1, b1, b2, ⟨b3.1, b3.2⟩⟩
theorem v_callH (C : Cx G p s m args meth c y cc nL ret ws) {hh : List (Nat × Nat × Nat × Nat)} {y2 : MethodName} {bytes : ByteArray} {maxL mc ms n index F L : Nat} {ret2 : Option FieldType} {ws2 : List Cond} {b t ci : Nat} {fs : List Value} {q : vw_C} {As rest : List Value} {post : Int → Wd → Prop} (hM : MG G l y2 ws2 F L mc ms As w (pI post)) (cw : vx_CSW R s args y.cls index y2 bytes maxL ret2 hh ws2 { frames := F, cells := mc, slots := ms, locals := L } mc ms n) (hn : As.length = n) (hst : st = As.reverse ++ rest) (hW : (rest.map fun v => v.category).sum ≤ 8) (d : decode cc pc = .ok (.invokestatic index, 3)) (hk : k + mc ≤ R.cells) (hz : z + ms ≤ R.slots)
    (kk : ∀ (x : Int) (w' : Wd), post x w' → V G p l e R s m args below meth c Q w' (k + mc) (z + ms) (pc + 3) ll (.int (iI x) :: rest)) : V G p l e R s m args below meth c Q w k z pc ll st := by
  obtain ⟨hx, hb2, hnl, hown, hts, -, -, hK, -⟩ := id C
  exact v_call (rest := rest) (fun H locs ls hR hs => vx_runSW (As := As) (rest := rest) ⟨hx, hb2, hnl, hown, hts⟩ hM cw ⟨PcW.blind, fun U hU hWa => ⟨rfl, by rw [hU]; exact hR, KK.warm hWa hK⟩⟩ rfl hn (hs.trans hnl) hst (by show 2 * 0 + _ ≤ 8; omega) d ⟨hk, hz⟩) (fun v w' hp => by obtain ⟨x, rfl, hp⟩ := hp; exact kk x w' hp)
end VLR
