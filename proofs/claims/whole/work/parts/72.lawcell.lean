/-! the law's own cell, by contract, and the law's call of it -/
def hLC : List (Nat × Nat × Nat × Nat) := [(0, 10, 13, 13)]
def wsLC : List Cond := Cond.codeWith yL_cell cL_cell 5 (some .int) hLC :: TBL
theorem wLC : Cond.codeWith yL_cell cL_cell 5 (some .int) hLC ∈ TBL := (mem_TBL (List.mem_of_getElem? (i := 791) (by decide +kernel)) rfl)
def PQ (D : va_G) (cs : Nat → ClassId) (ad : Nat → Nat) (ro : HP) (sz : Nat) (P : Option AV → SH → HP → Prop) : Array Value → State → Outcome → State → Prop := fun _ st o t => (∃ v sh' h' ad', o = .returned (v.map (cv ad')) ∧ P v sh' h' ∧ okH h' ∧ (∀ x ∈ v, okV sh'.length x) ∧ (∀ k, 1000 ≤ k → h' k = ro k) ∧ SH0.length ≤ sh'.length ∧ sh'.length ≤ 1000 ∧ (∀ k, k < SH0.length ∨ 1000 ≤ k → ad' k = ad k) ∧ RpD D cs ad' (AA ad SH0.length sz) sh' h' t.heap) ∧ va_F (AA ad SH0.length sz) st t
def TrL (as : List AV) (h : HP) (P : Option AV → SH → HP → Prop) : Prop := ∀ (l : Launch) (D : va_G) (cs : Nat → ClassId) (ad : Nat → Nat) (rl : Nat) (ro : HP) (sz : Nat), l.stackTraces = false → (∀ v ∈ as, okV SH0.length v) → okH h → (∀ k, 1000 ≤ k → h k = ro k) → Met l yL_cell wsLC rmL (TP D cs ad rl ro SH0 h as sz) (PQ D cs ad ro sz P) 1 6 (AA ad SH0.length sz)
theorem TrL.of {as : List AV} {h : HP} {P : Option AV → SH → HP → Prop} (hl : (entL as).length ≤ 5)
    (k : ∀ (p : Program) (l : Launch) (e : Env) (R : Room) (s : State) (m : MethodId) (args : Array Value) (below : List Frame) (meth : Method) (c : Code) (D : va_G) (cs : Nat → ClassId) (ad0 : Nat → Nat) (n0 rl : Nat) (ro : HP) (A : Nat → Prop) (Q : State → Prop), CX mLawX 1 6 p R s m args meth c D cs ad0 rl ro A → EN mLawX 1 6 p l e R s m args below meth c D cs ad0 n0 ro A Q P → c.exceptionTable.toList = tableOf hLC → ∀ (H : Heap) (locs : List Loc) (ad : Nat → Nat) (ls : Array Slot), SS mLawX s D cs ad0 n0 ro A H locs ad ls (entP as 5) [] SH0 h → W p l e R s m args below meth c H locs 0 0 Q (F0 m 0 ls [])) : TrL as h P := by
  intro l D cs ad rl ro sz htr has hh hro
  refine va_MetW (cc := cL_cell) (maxL := 5) (ret := some .int) (hh := hLC) (ws' := TBL) (by decide) rfl ?_
  intro p e s m args below meth c s₁ B hml hv
  obtain ⟨rfl, hsz, hRD, hRS⟩ := hv
  subst hsz
  have hts := atoms_spec (ws := wsLC) B.pre
  have htab : c.exceptionTable.toList = tableOf hLC := by
    obtain ⟨m9, meth9, c9, hn9, h1, h2, -, -, h6, -⟩ := Cond.codeWith_spec (hts _ List.mem_cons_self)
    cases Option.some.inj (hn9.symm.trans B.named)
    cases Option.some.inj (h1.symm.trans B.method)
    cases Option.some.inj (h2.symm.trans (Stand.of_body B).code)
    rw [← h6, table_eq]
  have hown : s.vm.findClass (RN (mOwn mLawX)) = some m.cls := findClass_of_methodNamed B.named
  have hll : (lg_sl (as.map (cv ad))).length ≤ 5 := by rw [ent_len]; exact hl
  have hl0 := lv_entry (as.map (cv ad)) (n := 5) hll
  rw [lg_entry_eq]
  generalize (lg_sl (as.map (cv ad)) ++ List.replicate (5 - (lg_sl (as.map (cv ad))).length) Slot.unset).toArray = ls at hl0 ⊢
  have hLr : Lr ls 5 ad (entP as 5) := ⟨hl0.1, hl0.2.1, fun i v hi => by
    have := ent_mem (ad := ad) as 0 i v (entP_at hi)
    rw [Nat.zero_add] at this
    exact hl0.2.2 _ this⟩
  have cx : CX mLawX 1 6 p (headSpec wsLC rmL).room s m (as.map (cv ad)).toArray meth c D cs ad rl ro (AA ad SH0.length s.heap.size) :=
    ⟨B.exec, B.bytes, B.returns, hml, hown, fun w hw => hts w (List.mem_cons_of_mem _ hw), B.notSynchronized, hRS, fun q hq => Or.inr hq, Nat.le_refl _, Nat.le_refl _, Nat.le_refl _, Nat.le_refl _, (name_of_methodNamed B.named B.method).1⟩
  refine k p l e _ s m _ below meth c D cs ad SH0.length rl ro (AA ad SH0.length s.heap.size) _ cx ?_ htab s.heap [] ad ls ⟨hRD, va_S.rf, hLr, fun i v hi => has v (ent_in as i v (entP_at hi)), fun v hv => absurd hv (List.not_mem_nil), hh, hro, Nat.le_refl _, by decide, fun _ _ => rfl⟩
  refine ⟨htr, ?_⟩
  intro pc L v sh' h' H locs ad' ls' k0 s0 hr hP st hk hs
  obtain ⟨a1, a2, a3, a4, a5, a6, a7, a8, a9, a10⟩ := st
  refine W.widen (k := 1) (n := 6) hk hs ?_
  have hq : ∀ t : State, t.heap = H → s.WarmedH t.vm → PQ D cs ad ro s.heap.size P (as.map (cv ad)).toArray s (.returned (v.map (cv ad'))) t :=
    fun t ht _ => ⟨⟨v, sh', h', ad', rfl, hP, a6, fun x hx => a5 x (by simpa using hx), a7, a8, a9, a10, by rw [ht]; exact a1⟩, a2.F ht⟩
  obtain _ | x | w | r := v
  · exact absurd hr.1 (by decide)
  · have hty : ∃ ty, meth.sig.returnType = some ty ∧ narrow ty (.int (Int32.ofInt x)) = .int (Int32.ofInt x) := by
      rcases hr.2 with q | ⟨q, q2⟩
      · exact ⟨_, B.returns.trans q, ret_nar (Or.inl rfl)⟩
      · exact ⟨_, B.returns.trans q, ret_nar (Or.inr ⟨rfl, q2⟩)⟩
    obtain ⟨ty, e1, e2⟩ := hty
    exact W.zret B.exec B.bytes e1 e2 hq a2.2.2 hr.1
  · exact hr.elim
  · exact hr.elim
section
variable {mc ms k0 s0 : Nat} {L : List (Option AV)} {S : List AV} {h : HP} {P : Option AV → SH → HP → Prop}
theorem wt_cellS {as : List AV} {P' : Option AV → SH → HP → Prop} (hlen : as.length = 4) (hS4 : S.length ≤ 4) (hk1 : k0 + 1 ≤ mc) (hs1 : s0 + 6 ≤ ms) (hT : TrL as h P') (kk : ∀ v sh' h', P' v sh' h' → Wt mLaw_law mc ms (k0 + 1) (s0 + 6) 858 L (v.toList ++ S) sh' h' P) : Wt mLaw_law mc ms k0 s0 855 L (as.reverse ++ S) SH0 h P := by
  intro p l e R s m args below meth c D cs ad0 n0 rl ro A Q cx he H locs ad ls st hk0 hs0
  have hb := cx.2.1
  have hml := cx.2.2.2.1
  have hown : s.vm.findClass RL = some m.cls := cx.2.2.2.2.1
  have ht := cx.2.2.2.2.2.1
  have hRf : 9 ≤ R.frames := cx.2.2.2.2.2.2.2.2.2.1
  have hRl : 242 ≤ R.locals := cx.2.2.2.2.2.2.2.2.2.2.1
  have hRc := Nat.le_trans hk1 cx.2.2.2.2.2.2.2.2.2.2.2.1
  have hRs := Nat.le_trans hs1 cx.2.2.2.2.2.2.2.2.2.2.2.2.1
  have hok : ∀ v ∈ as, okV SH0.length v := fun v hv => st.sok v (List.mem_append_left _ (List.mem_reverse.mpr hv))
  have st' := st.stack (S' := S) (fun v hv => st.sok v (List.mem_append_right _ hv))
  have hpre := call_pre cx.2.2.2.2.2.2.2.2.1 cx.2.2.2.2.2.2.2.1 st
  have hM := hT l D cs ad rl ro H.size he.1 hok st.hok st.2.2.2.2.2.2.1
  refine Wt.called (callee := mLawX) (len := 3) (as := as) (a := (as.map (cv ad)).toArray) cx he st' hk1 hs1 ?_ kk
  intro T hT X
  have w1 : Cond.initialized yL_cell.cls ∈ TBL := (mem_TBL (List.mem_of_getElem? (i := 47) (by decide +kernel)) rfl)
  have w2 : Cond.static yL_cell ∈ TBL := (mem_TBL (List.mem_of_getElem? (i := 790) (by decide +kernel)) rfl)
  have w3 : Cond.methodLink RL 109 yL_cell ∈ TBL := (mem_TBL (List.mem_of_getElem? (i := 789) (by decide +kernel)) rfl)
  have hy : yL_cell.cls ≠ "java/lang/invoke/MethodHandle" ∧ yL_cell.cls ≠ "java/lang/invoke/VarHandle" := ⟨by decide, by decide⟩
  have hK : Back l R p e below s args yL_cell 3 8 (PreOf R 1 6 (TP D cs ad rl ro SH0 h as H.size)) (PostOf (PQ D cs ad ro H.size P') 1 6 (AA ad SH0.length H.size)) := va_backW (hh := hLC) (bytes := cL_cell) (maxL := 5) (ret := some .int) hM tr_blind rfl rfl (show 8 + 1 ≤ R.frames from hRf) (show 8 + (5 + 11) + 140 ≤ R.locals by omega)
    (fun w hw a' U hW => by
      rcases List.mem_cons.mp hw with rfl | hw
      · exact pay_TBL ht wLC hW
      · exact pay_TBL ht hw hW) List.mem_cons_self (fun a' U hW => pay_TBL ht w1 hW)
  obtain ⟨mk, methM, cM, hnamed, hmethM, -, -, -, -, -, -, hsigM⟩ := Cond.codeWith_spec (ht _ wLC)
  have hstatic : methM.isStatic = true := Cond.static_spec hnamed hmethM (ht _ w2)
  obtain ⟨kP, hkP, -⟩ := className_of_methodNamed hnamed
  have hinitP : kP.init = .initialized := Cond.initialized_spec (findClass_of_methodNamed hnamed) hkP (ht _ w1)
  have hdg : decode c.code 855 = .ok (.invokestatic 109, 3) := by rw [hb]; exact dL_law_855
  obtain ⟨vm₁, X₁, hstep₁⟩ := X.invokestatic cx.1 hown (ht _ w3) hnamed hmethM hstatic hkP hinitP hy (g := F0 m 855 ls ((as.reverse ++ S).map (cv ad))) rfl (argsL := as.map (cv ad)) (rest := S.map (cv ad)) (by
      have h2 : (parseMethodDescriptor yL_cell.desc).map (fun d => d.parameters.length) = some 4 := by decide +kernel
      rw [hsigM] at h2
      rw [List.length_map, hlen]
      exact (Option.some.inj h2).symm) (by simp only [List.map_append, List.map_reverse]) hdg
  obtain ⟨v, ⟨U', l2, c2, s2⟩, X', ⟨g', mk', t, L9, e1, e2, hq, h1, hL, h2, h3⟩, hsteps⟩ := hK m meth c ⟨T.setVm vm₁, locs, k0, s0⟩ (F0 m 855 ls (S.map (cv ad))) (.invokestatic 109) mk (as.map (cv ad)).toArray X₁ rfl (st.2.2.1.1.trans hml.symm) hdg (catS_ok hS4) (X₁.named hnamed)
    ⟨hRc, hRs, rfl, by show T.heap.size = _; rw [hT], by show RpD D cs ad _ SH0 h T.heap; rw [hT]; exact hpre.1, by
      have hW1 : s.WarmedH (T.setVm vm₁).vm := X₁.warmed
      have : RpS D cs ad rl ro (AA ad SH0.length H.size) (T.setVm vm₁) H := hpre.2.moved hW1.alike (nw_warm hW1)
      rw [← hT] at this ⊢
      exact this⟩
  dsimp only [Pt.U, Pt.locs, Pt.cells, Pt.slots] at X' e1 e2 h1 h2 h3 hsteps
  subst h1; subst h2; subst h3
  exact ⟨v, (T.setVm vm₁).calling g' mk' (as.map (cv ad)).toArray, t, U', L9, hT, X', hL, e1, e2, hq, fun target h9 => hstep₁ _ fun acts => by rw [doInvoke_state]; exact hsteps.trans h9⟩
end
