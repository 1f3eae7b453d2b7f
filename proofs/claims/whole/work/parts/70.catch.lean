/-! the law's own cell: the call, the catch, the contract -/
/-- the search through a table of one row: tables that have yet to resolve the row's class answer as those that have resolved it -/
theorem ca_search {e : Env} {s : State} {f : JFrame} {a : Addr} {x : ExceptionTableEntry} {v : Vm} {k : ClassId} {me : Method} {co : Code} (hx : covers x f.pc = true) (h0 : x.catchType ≠ 0) (htab : co.exceptionTable.toList = [x]) (hco : me.code = some co) (hm : s.vm.method? f.method = some me) (hm' : v.method? f.method = some me)
    (size : v.classes.size ≤ s.vm.classes.size) (cold : (resolveClass f.method.cls x.catchType).Gives e.toSetting s.vm (.ok k) v) (warm : (resolveClass f.method.cls x.catchType).Gives e.toSetting v (.ok k) v) (Q : Handler → Pre) (E : CtlPost) (d : Bool) (acts : List Action) :
    Sem.wp (findHandler f a) Q E e d acts s ↔ Sem.wp (findHandler f a) Q E e d acts (s.setVm v) := by
  have u1 := cold.op (op := .resolveClass f.method.cls x.catchType) rfl
  have u2 := warm.op (op := .resolveClass f.method.cls x.catchType) rfl
  have hr : (x.startPc ≤ f.pc ∧ f.pc < x.endPc) := by simpa [covers] using hx
  rw [W.findHandler_eq hm hco, W.findHandler_eq (s := s.setVm v) hm' hco, htab]
  have twice : (s.setVm v).setVm v = s.setVm v := rfl
  simp [findHandler.go, hr.1, hr.2, h0, size, u1.1, u1.2, u2.1, u2.2, twice]
/-- so, where the second finds its handler, both step to the same state -/
theorem ca_step {e : Env} {s s' : State} {f : JFrame} {a : Addr} {pc : Nat} (same : ∀ (Q : Handler → Pre) (E : CtlPost) (d : Bool) (acts : List Action), Sem.wp (findHandler f a) Q E e d acts s ↔ Sem.wp (findHandler f a) Q E e d acts s') (found : Finds e s' f a (.found pc)) (r : List Frame) :
    (stepThrowing e s a (.java f :: r)).1 = (stepThrowing e s' a (.java f :: r)).1 := by
  rw [(stepThrowing_catch found).1]
  unfold stepThrowing searchFrame vmDo
  dsimp only
  split <;> rename_i hgo <;> obtain ⟨_, h1, -⟩ := Sem.eq_ok_of hgo (a := Handler.found pc) (s' := s') (acts' := []) (by rw [Sem.wp_bind', same, found]; exact ⟨rfl, rfl, rfl⟩) <;> cases h1
  rfl
/-- a walk that goes anywhere goes on from its first step -/
theorem ca_on {tb : Tables} {e : Env} {below : List Frame} {s t : State} (hgo : s.goesOn) (h : Steps tb e below s t) (ne : s ≠ t) : Steps tb e below (stepThread tb e s).1 t := by
  obtain ⟨n, hn, hw⟩ := h
  match n, hn, hw with
  | 0, hn, _ => exact absurd hn ne
  | n + 1, hn, hw =>
    refine ⟨n, (stepsAlone_succ n hgo).symm.trans hn, fun j hj => ?_⟩
    have h1 := hw (j + 1) (by omega)
    rw [stepsAlone_succ j hgo] at h1
    exact h1
section
variable {p : Program} {l : Launch} {e : Env} {R : Room} {s : State} {m : MethodId} {args : Array Value} {below : List Frame} {meth : Method} {c : Code} {D : va_G} {cs : Nat → ClassId} {ad0 : Nat → Nat} {n0 rl : Nat} {ro : HP} {A : Nat → Prop} {H : Heap} {locs : List Loc} {ad : Nat → Nat} {ls : Array Slot} {L : List (Option AV)} {S : List AV} {h : HP} {Q : State → Prop}
theorem th_catch {T : State} {cells slots pc : Nat} {q : Addr} {ce : Cell} {x : ExceptionTableEntry} {rest : List Value} {own name : String} (X : Stand p l e R s m args below meth c T locs cells slots) (htab : c.exceptionTable.toList = [x]) (hx : covers x pc = true) (h0 : x.catchType ≠ 0) (hown : s.vm.findClass own = some m.cls) (hlink : (Cond.classLink own x.catchType name).before args s = true) (hcast : (Cond.castable name name).before args s = true) (hcell : T.heap[q]? = some ce) (hv : ce.vm = .none) (hcl : s.vm.findClass name = some ce.cls) :
    ∃ vm', Stand p l e R s m args below meth c (T.setVm vm') locs cells slots ∧ ∀ target, Steps p.tables e below ((T.setVm vm').setTop (F0 m x.handlerPc ls [.ref q])) target → Steps p.tables e below ((T.setTop (F0 m pc ls rest)).pushFrame (.throwing q)) target := by
  obtain ⟨k, hk, link⟩ := Cond.classLink_spec hown hlink e.platform (congrArg (·.magicAccessors) X.admits.platform)
  obtain rfl : k = ce.cls := Option.some.inj (hk.symm.trans hcl)
  have fit : s.vm.assignable ce.cls ce.cls = true := by
    obtain ⟨k1, k2, e1, e2, e3⟩ := Cond.castable_spec hcast
    rw [hcl] at e1 e2
    cases e1
    cases e2
    exact e3
  have cold := X.warmed.classLinks link
  have W1 : s.WarmedH (T.vm.noted m.cls x.catchType (.cls ce.cls)) := by
    obtain ⟨_, _, _, _, z1, _, _, _, _, _, _, z2⟩ := link.here
    exact X.warmed.noted z1 z2 (State.rightAt_cls link)
  have X1 := X.noted W1
  obtain ⟨dk, r1, r2⟩ := cold.ready
  have there : ∃ z, (T.vm.noted m.cls x.catchType (.cls ce.cls)).classes[ce.cls]? = some z := by
    obtain ⟨z, hz⟩ := Vm.classAt_of_findClass hcl
    obtain ⟨z', hz', -⟩ := W1.alike.2.2 _ _ hz
    exact ⟨z', hz'⟩
  have found : Finds e (((T.setVm (T.vm.noted m.cls x.catchType (.cls ce.cls))).setTop (F0 m pc ls rest)).pushFrame (.throwing q)) (F0 m pc ls rest) q (.found x.handlerPc) :=
    Finds.catchReady (meth := meth) (code := c) X1.method' X1.code [] x [] htab (fun _ hy => by cases hy) hx h0 (c := ce.cls) (cell := ce) cold.ready hcell (fun _ hz => by rw [hv] at hz; cases hz) there there ((W1.alike.assignable _ _).trans fit)
  refine ⟨_, X1, fun target on => Steps.trans ?_ on⟩
  have A0 : At T (F0 m pc ls rest).method c below := X.here
  have A1 : At (T.setVm (T.vm.noted m.cls x.catchType (.cls ce.cls))) (F0 m pc ls rest).method c below := X1.here
  have walk := ca_on (A1.throwing q).1 (X1.catchAt q (g := F0 m pc ls rest) rfl found (Steps.refl _)) (fun hz => by
    have h1 := congrArg State.frames hz
    rw [frames_entered A1.top, State.frames_setTop' _ A1.top] at h1
    cases h1)
  refine Steps.head (A0.throwing q).1 (A0.throwing q).2 ?_
  rw [stepThread_throwing (frames_entered A1.top _)] at walk
  rw [stepThread_throwing (frames_entered A0.top _), ca_step (s' := ((T.setVm (T.vm.noted m.cls x.catchType (.cls ce.cls))).setTop (F0 m pc ls rest)).pushFrame (.throwing q))
    (ca_search (s := (T.setTop (F0 m pc ls rest)).pushFrame (.throwing q)) (f := F0 m pc ls rest) hx h0 htab X.code X.method' X1.method' (Vm.Alike.size_le ((Vm.Alike.refl T.vm).noted m.cls x.catchType (.cls ce.cls))) (resolveClass_links e.toSetting cold) ((resolveOnce_memo e.toSetting _ r1 r2 (by simp) (by simp)).bind (.pure ce.cls))) found]
  exact walk
theorem pay_TBL {w : Cond} (ht : ∀ w ∈ TBL, w.before args s = true) (hw : w ∈ TBL) {a' : Array Value} {U : State} (hW : s.WarmedH U.vm) : w.before a' U = true := word_at hW (good_of_word (TBL_good hw)) (ht w hw)
/-- the call that throws, and its catch -/
theorem th_call {i j : Int} {x : ExceptionTableEntry} (cx : CX mLawX 1 6 p R s m args meth c D cs ad0 rl ro A) (he1 : l.stackTraces = false) (htab : c.exceptionTable.toList = [x]) (hx : covers x 5 = true) (hx0 : x.catchType = 13) (hxp : x.handlerPc = 13) (hr : i < 0 ∨ h 41 3 < i ∨ j < 0 ∨ h 41 4 < j)
    (st : SS mLawX s D cs ad0 n0 ro A H locs ad ls L (.inl j :: .inl i :: .inr (.inr 0) :: S) SH0 h) (hS4 : S.length ≤ 4) (k : ∀ (H1 : Heap) (q : Addr), SS mLawX s D cs ad0 n0 ro A H1 locs ad ls L [] SH0 h → W p l e R s m args below meth c H1 locs 1 6 Q (F0 m 13 ls [.ref q])) :
    W p l e R s m args below meth c H locs 0 0 Q (F0 m 5 ls ((.inl j :: .inl i :: .inr (.inr 0) :: S : List AV).map (cv ad))) := by
  intro T hT X
  have hexec := cx.1
  have hb := cx.2.1
  have hml := cx.2.2.2.1
  have hown : s.vm.findClass RL = some m.cls := cx.2.2.2.2.1
  have ht := cx.2.2.2.2.2.1
  have hRf : 8 ≤ R.frames := cx.2.2.2.2.2.2.2.2.2.1
  have hRl : 140 ≤ R.locals := cx.2.2.2.2.2.2.2.2.2.2.1
  have hRc : 1 ≤ R.cells := cx.2.2.2.2.2.2.2.2.2.2.2.1
  have hRs : 6 ≤ R.slots := cx.2.2.2.2.2.2.2.2.2.2.2.2.1
  have hpre := call_pre cx.2.2.2.2.2.2.2.2.1 cx.2.2.2.2.2.2.2.1 st
  have has : ∀ v ∈ ([.inr (.inr 0), .inl i, .inl j] : List AV), okV SH0.length v := by
    intro v hv
    refine st.sok v ?_
    simp only [List.mem_cons, List.not_mem_nil, or_false] at hv ⊢
    rcases hv with h | h | h
    · exact Or.inr (Or.inr (Or.inl h))
    · exact Or.inr (Or.inl h)
    · exact Or.inl h
  have hM := th_met hr l D cs ad rl ro H.size he1 has st.hok st.2.2.2.2.2.2.1
  obtain ⟨c1, c2, c3, c4, c5, c6, c7, c8, c9, c10⟩ := callAt_ok ca_12_7
  have hy : yX10_cell.cls ≠ "java/lang/invoke/MethodHandle" ∧ yX10_cell.cls ≠ "java/lang/invoke/VarHandle" := ⟨by decide, by decide⟩
  have w1 : Cond.code yX10_cell cX10_cell 3 (some .int) ∈ TBL := c2
  have w2 : Cond.initialized yX10_cell.cls ∈ TBL := c1
  have w3 : Cond.methodLink RL 7 yX10_cell ∈ TBL := c8 (by decide)
  have w4 : Cond.instanceMethod yX10_cell ∈ TBL := (c9 rfl).1
  have w5 : Cond.selects RX10 yX10_cell yX10_cell ∈ TBL := (c9 rfl).2
  obtain ⟨mk, methM, hnamed, hmethM, hstM, habM⟩ := Cond.instanceMethod_spec (ht _ w4)
  obtain ⟨methM', cM, hmethM', -, -, -, -, -, -, hsigM⟩ := Cond.code_spec hnamed (ht _ w1)
  cases Option.some.inj (hmethM.symm.trans hmethM')
  obtain ⟨cellB, hcB, hoB, hclB⟩ := va_recv (q := (RN 10, TN 10, NN 10)) cx.2.2.2.2.2.2.2.1.1 st.1.1 (CL_at (show 10 < 12 by decide)) (ws_at (show SH0[0]? = some (.inr (10, [some (some 1), none, some (some 2), some (some 3), some (some 6), some (some 10), some (some 15), some (some 19), some (some 24), some (some 27), some (some 33), some (some 36), some (some 41)])) from rfl))
  have hclB : s.vm.findClass RX10 = some cellB.cls := hclB
  obtain ⟨c2', r2, m2, q1, q2, q3, q4, kP, hkP, hkPi⟩ := Cond.selects_spec (ht _ w5)
  cases Option.some.inj (hclB.symm.trans q1)
  cases Option.some.inj ((State.methodFound?_of_named hnamed hy).symm.trans q2)
  cases Option.some.inj (hnamed.symm.trans q3)
  have hselP : selectMethod e.platform s.vm cellB.cls mk = .method mk := by rw [Launch.admits_selectMethod X.admits]; exact q4
  have hdg : decode c.code 5 = .ok (.invokevirtual 7, 3) := by rw [hb]; exact dL_cell_5
  obtain ⟨vm₁, X₁, hstep₁⟩ := X.invokevirtual hexec hown (ht _ w3) hnamed hmethM hstM hkP hkPi hy (a := ad 0) (cell := cellB) (by rw [hT]; exact hcB)
    (fun z h => by rw [h] at hoB; cases hoB) hselP hmethM habM hkP hkPi (g := F0 m 5 ls ((.inl j :: .inl i :: .inr (.inr 0) :: S : List AV).map (cv ad))) rfl (argsL := [.int (Int32.ofInt i), .int (Int32.ofInt j)]) (rest := S.map (cv ad)) (by
      have : parseMethodDescriptor yX10_cell.desc = some methM.sig := hsigM
      have h2 : (parseMethodDescriptor yX10_cell.desc).map (fun d => d.parameters.length) = some 2 := c6
      rw [this] at h2
      exact (Option.some.inj h2).symm) rfl hdg
  obtain ⟨g', hg'⟩ : ∃ g', g' = F0 m 5 ls (S.map (cv ad)) := ⟨_, rfl⟩
  obtain ⟨U, hU⟩ : ∃ U, U = T.setVm vm₁ := ⟨_, rfl⟩
  obtain ⟨a, ha⟩ : ∃ a, a = (([.inr (.inr 0), .inl i, .inl j] : List AV).map (cv ad)).toArray := ⟨_, rfl⟩
  have hUH : U.heap = H := by rw [hU]; exact hT
  rw [← hU] at X₁
  have hst : ∀ target, Steps p.tables e below (doInvoke e (U.setTop g') [] mk a).1 target → Steps p.tables e below (T.setTop (F0 m 5 ls ((.inl j :: .inl i :: .inr (.inr 0) :: S : List AV).map (cv ad)))) target := by
    intro target h9
    refine hstep₁ _ fun acts => ?_
    rw [doInvoke_state]
    rw [hU, hg', ha] at h9
    exact h9
  have hn := X₁.named hnamed
  have hW1 : s.WarmedH U.vm := X₁.warmed
  obtain ⟨methY, cY, hmY, hcY, -, hlY, -, -, -, -⟩ := Cond.code_spec hn (pay_TBL (a' := a) ht w1 hW1)
  obtain ⟨kY, hkY, -⟩ := className_of_methodNamed hn
  have hinitY : kY.init = .initialized := Cond.initialized_spec (findClass_of_methodNamed hn) hkY (pay_TBL (a' := a) ht w2 hW1)
  have hA : At U g'.method c below := by rw [hg']; exact X₁.here
  have hcat := catS_ok (pc := 5) (S := S) (ad := ad) (m := m) (ls := ls) (st := S.map (cv ad)) hS4
  have happ : (headSpec (wsM mHelpX) rmX).appliesLoose yX10_cell e.platform (U.calling g' mk a) = true :=
    Spec.appliesLoose_calling (g := g') hA (by rw [hg']; exact hdg) hn hkY hinitY
      (X₁.room_calling (g := g') (R' := rmX) (by rw [hg']; exact st.2.2.1.1.trans hml.symm) hmY hcY (show 7 + 1 ≤ R.frames from hRf) (by
        rw [hlY, hg']
        show 2 * (F0 m 5 ls (S.map (cv ad))).monitorRoom + ((S.map (cv ad)).map fun v => v.category).sum + (3 + 11) + 110 ≤ R.locals
        omega) (show 0 + 1 ≤ R.cells by omega) (show 0 + 6 ≤ R.slots by omega))
      (atoms_intro fun w hw => by
        rcases List.mem_cons.mp hw with rfl | hw
        · exact pay_TBL ht w1 hW1
        · exact pay_TBL ht hw hW1)
  have hP0 : TP D cs ad rl ro SH0 h [.inr (.inr 0), .inl i, .inl j] H.size a U := ⟨ha, by rw [hUH], by rw [hUH]; exact hpre.1, by rw [hUH]; exact hpre.2.moved hW1.alike (nw_warm hW1)⟩
  have hPc : TP D cs ad rl ro SH0 h [.inr (.inr 0), .inl i, .inl j] H.size a (U.calling g' mk a) := tr_blind _ _ _ _ hP0
  obtain ⟨mid, hmid⟩ := hA.above
  have hfr : (U.setTop g').frames = (.java g' :: mid) ++ below := by rw [State.frames_setTop' g' hA.top, hmid]; rfl
  obtain ⟨o, s₂, hsteps, -, hend, hq⟩ := Steps.callFree hM p X₁.admits X₁.cas X₁.clock (acts := []) hfr happ hPc trivial
  have hq' : ThQ a (U.calling g' mk a) o s₂ := hq
  obtain ⟨q, ce, rfl, hce, hcv, hcl, hW₂, hsm, hz1, hz2⟩ := hq'
  rw [State.frames_setTop' g' hA.top] at hend
  obtain ⟨g₀, hg0⟩ := Option.isSome_iff_exists.mp hA.top
  obtain ⟨r, hrr⟩ := State.topJava?_eq_some.mp hg0
  have hr' : (({ U with heap := s₂.heap, slotsUsed := s₂.slotsUsed } : State).setVm s₂.vm).frames = .java g₀ :: r := hrr
  obtain ⟨e2, y2, y3, y4, y5, y6⟩ := id hsm
  have e3 : s₂ = ({ (U.calling g' mk a).setFrames s₂.frames with heap := s₂.heap, slotsUsed := s₂.slotsUsed } : State).setVm s₂.vm := by
    have : s₂ = ({ s₂ with vm := (U.calling g' mk a).vm } : State).setVm s₂.vm := rfl
    rw [e2] at this
    exact this
  have hf₂ : s₂.frames = .throwing q :: .java g' :: U.frames.tail := hend
  have hW' : U.WarmedH s₂.vm := hW₂
  have hs₂ : s₂ = ((({ U with heap := s₂.heap, slotsUsed := s₂.slotsUsed } : State).setVm s₂.vm).setTop g').pushFrame (.throwing q) := by
    refine e3.trans ?_
    rw [hf₂, State.calling_eq hA.top, State.setFrames_setFrames, State.pushFrame, State.frames_setTop _ hr', State.setTop_of_frames _ hr', State.setFrames_setFrames, hrr]
    rfl
  have hsame : U.sameButNew ({ U with heap := s₂.heap, slotsUsed := s₂.slotsUsed } : State) [] 1 6 := by
    refine ⟨?_, y2, y3, y4, y5, y6⟩
    obtain ⟨t, ht, -⟩ := State.frames_cons hrr
    show ({ U with heap := s₂.heap, slotsUsed := s₂.slotsUsed } : State) = { U.setFrames U.frames with heap := s₂.heap, slotsUsed := s₂.slotsUsed }
    rw [State.setFrames_self ht]
  have hX2 : Stand p l e R s m args below meth c (({ U with heap := s₂.heap, slotsUsed := s₂.slotsUsed } : State).setVm s₂.vm) locs 1 6 := by
    have hsm2 := X₁.same.trans (hsame.setVm s.vm)
    rw [List.append_nil] at hsm2
    exact ⟨X₁.admits, X₁.cas, X₁.clock, X₁.frames, X₁.room, X₁.hears, X₁.method, X₁.code, (X₁.here.setHeapUsed s₂.heap s₂.slotsUsed).setVm hW'.alike, X₁.tail, State.WarmedH.trans X₁.warmed hW', X₁.limits, X₁.bytes, hsm2⟩
  have hclS : s.vm.findClass AX = some ce.cls := by
    have h9 : U.vm.findClass AX = some ce.cls := hcl
    rw [hW1.alike.findClass] at h9
    exact h9
  have hcast : (Cond.castable AX AX).before args s = true := own_at (args := args) ht cx.2.2.2.2.2.2.2.1.2.2.2.2.2 _ (by simp [Bundle.ownAtoms])
  have hlk : (Cond.classLink RL x.catchType AX).before args s = true := by
    rw [hx0]
    exact ht _ (mem_TBL (List.mem_of_getElem? (i := 792) (by decide +kernel)) rfl)
  obtain ⟨vm3, X3, st3⟩ := th_catch (ls := ls) (rest := S.map (cv ad)) (pc := 5) hX2 htab hx (by rw [hx0]; decide) hown hlk hcast (show s₂.heap[q]? = some ce from hce) hcv hclS
  have hz1 : U.heap.size ≤ s₂.heap.size := hz1
  have hz2 : ∀ q : Nat, q < U.heap.size → s₂.heap[q]? = U.heap[q]? := hz2
  rw [hUH] at hz1 hz2
  obtain ⟨b1, b2, b3, b4, b5, b6, b7, b8⟩ := st
  have stN : SS mLawX s D cs ad0 n0 ro A s₂.heap locs ad ls L [] SH0 h := ⟨⟨b1.1.kept (fun k q hk => hz2 _ (b1.1 k q hk).lt), b1.2.1, b1.2.2⟩, ⟨Nat.le_trans b2.1 hz1, fun q h1 h2 => by rw [hz2 q (Nat.lt_of_lt_of_le h1 b2.1)]; exact b2.2.1 q h1 h2, b2.2.2⟩, b3, b4, fun v hv => absurd hv (List.not_mem_nil), b6, b7, b8⟩
  obtain ⟨t, d1, d2⟩ := k s₂.heap q stN ((({ U with heap := s₂.heap, slotsUsed := s₂.slotsUsed } : State).setVm s₂.vm).setVm vm3) rfl X3
  refine ⟨t, hst t (hsteps.trans ?_), d2⟩
  rw [hs₂, hg']
  rw [hxp] at st3
  exact st3 t d1
end
