/-! rows of the small machine: a method's entry and end, calls -/
section
variable {mi : MI} {mc ms k0 s0 pc : Nat} {L : List (Option AV)} {S : List AV} {sh : SH} {h : HP} {P : Option AV → SH → HP → Prop}
variable {D : va_G} {cs : Nat → ClassId} {ad0 ad : Nat → Nat} {n0 rl : Nat} {ro : HP} {A : Nat → Prop} {H : Heap}
theorem RpS.moved {u U : State} (hvm : u.vm.Alike U.vm) (hn : (∀ w ∈ NWL, va_Nw w u → va_Nw w U) ∧ (txt u → txt U)) (hr : RpS D cs ad rl ro A u H) : RpS D cs ad rl ro A U H :=
  ⟨hr.1.moved hvm, fun k h1 h2 => (hr.2.1 k h1 h2).moved hvm, fun k h1 h2 => (hr.2.2.1 k h1 h2).moved hvm, fun w hw => hn.1 w hw (hr.2.2.2.1 w hw), hn.2 hr.2.2.2.2.1, hr.2.2.2.2.2.1.moved hvm, hr.2.2.2.2.2.2.moved hvm⟩
theorem nw_same {u U : State} (hvm : u.vm = U.vm) : (∀ w ∈ NWL, va_Nw w u → va_Nw w U) ∧ (txt u → txt U) := by
  refine ⟨?_, fun ⟨a, h⟩ => ⟨a, vk_R.same hvm.symm h⟩⟩
  intro w hw hu
  unfold NWL at hw
  simp only [List.mem_cons, List.not_mem_nil, or_false] at hw
  rcases hw with rfl | rfl | rfl | rfl <;> exact va_Nw.same rfl hvm hu
theorem nw_warm {u U : State} (hW : u.WarmedH U.vm) : (∀ w ∈ NWL, va_Nw w u → va_Nw w U) ∧ (txt u → txt U) := by
  refine ⟨?_, fun ⟨a, h⟩ => ⟨a, vk_R.warm hW h⟩⟩
  intro w hw hu
  unfold NWL at hw
  simp only [List.mem_cons, List.not_mem_nil, or_false] at hw
  rcases hw with rfl | rfl | rfl | rfl
  · exact va_Nw.warmM hW hu
  · exact va_Nw.warmM hW hu
  · exact va_Nw.warmM hW hu
  · exact va_Nw.warmF hW hu
theorem RpD.weaken {A' : Nat → Prop} (hr : RpD D cs ad A sh h H) (hA : ∀ k, k < sh.length → A' (ad k)) : RpD D cs ad A' sh h H := by
  refine ⟨hr.1, ⟨hr.2.1.1, fun k q hq => ?_⟩, hr.2.2⟩
  simp only [wsOf, List.getElem?_mapIdx] at hq
  cases hc : sh[k]? with
  | none => rw [hc] at hq; cases hq
  | some c =>
    rw [hc] at hq
    cases hq
    exact hA k (List.getElem?_eq_some_iff.mp hc).1
theorem RpD.inA (hr : RpD D cs ad A sh h H) {k : Nat} (hk : k < sh.length) : A (ad k) :=
  hr.2.1.2 k _ (ws_at (List.getElem?_eq_getElem hk))
def entL (as : List AV) : List (Option AV) := match as with
  | [] => []
  | .inr (.inl w) :: r => some (.inr (.inl w)) :: none :: entL r
  | .inl x :: r => some (.inl x) :: entL r
  | .inr (.inr k) :: r => some (.inr (.inr k)) :: entL r
theorem ent_mem {ad : Nat → Nat} : ∀ (as : List AV) (off i : Nat) (v : AV), (entL as)[i]? = some (some v) → (off + i, cv ad v) ∈ lv_args off (as.map (cv ad))
  | [], off, i, v, hi => by simp [entL] at hi
  | .inl x :: r, off, i, v, hi => by
    unfold entL at hi
    show _ ∈ (off, _) :: lv_args (off + 1) (r.map (cv ad))
    cases i with
    | zero => cases hi; exact List.mem_cons_self
    | succ i =>
      rw [List.getElem?_cons_succ] at hi
      have := ent_mem (ad := ad) r (off + 1) i v hi
      rw [show off + 1 + i = off + (i + 1) by omega] at this
      exact List.mem_cons_of_mem _ this
  | .inr (.inr x) :: r, off, i, v, hi => by
    unfold entL at hi
    show _ ∈ (off, _) :: lv_args (off + 1) (r.map (cv ad))
    cases i with
    | zero => cases hi; exact List.mem_cons_self
    | succ i =>
      rw [List.getElem?_cons_succ] at hi
      have := ent_mem (ad := ad) r (off + 1) i v hi
      rw [show off + 1 + i = off + (i + 1) by omega] at this
      exact List.mem_cons_of_mem _ this
  | .inr (.inl x) :: r, off, i, v, hi => by
    unfold entL at hi
    show _ ∈ (off, _) :: lv_args (off + 2) (r.map (cv ad))
    match i, hi with
    | 0, hi => cases hi; exact List.mem_cons_self
    | 1, hi => cases hi
    | i + 2, hi =>
      rw [List.getElem?_cons_succ, List.getElem?_cons_succ] at hi
      have := ent_mem (ad := ad) r (off + 2) i v hi
      rw [show off + 2 + i = off + (i + 2) by omega] at this
      exact List.mem_cons_of_mem _ this
theorem ent_len {ad : Nat → Nat} : ∀ as : List AV, (lg_sl (as.map (cv ad))).length = (entL as).length
  | [] => rfl
  | .inl x :: r => by
    have := ent_len (ad := ad) r
    simp only [lg_sl, entL, List.map_cons, List.flatMap_cons, List.length_append, List.length_cons] at this ⊢
    rw [this]
    show 1 + _ = _
    omega
  | .inr (.inr x) :: r => by
    have := ent_len (ad := ad) r
    simp only [lg_sl, entL, List.map_cons, List.flatMap_cons, List.length_append, List.length_cons] at this ⊢
    rw [this]
    show 1 + _ = _
    omega
  | .inr (.inl x) :: r => by
    have := ent_len (ad := ad) r
    simp only [lg_sl, entL, List.map_cons, List.flatMap_cons, List.length_append, List.length_cons] at this ⊢
    rw [this]
    show 2 + _ = _
    omega
theorem ent_in : ∀ (as : List AV) (i : Nat) (v : AV), (entL as)[i]? = some (some v) → v ∈ as
  | [], i, v, hi => by simp [entL] at hi
  | .inl x :: r, i, v, hi => by
    unfold entL at hi
    cases i with
    | zero => cases hi; exact List.mem_cons_self
    | succ i => exact List.mem_cons_of_mem _ (ent_in r i v hi)
  | .inr (.inr x) :: r, i, v, hi => by
    unfold entL at hi
    cases i with
    | zero => cases hi; exact List.mem_cons_self
    | succ i => exact List.mem_cons_of_mem _ (ent_in r i v hi)
  | .inr (.inl x) :: r, i, v, hi => by
    unfold entL at hi
    match i, hi with
    | 0, hi => cases hi; exact List.mem_cons_self
    | 1, hi => cases hi
    | i + 2, hi => exact List.mem_cons_of_mem _ (ent_in r i v hi)
def entP (as : List AV) (n : Nat) : List (Option AV) := entL as ++ List.replicate (n - (entL as).length) none
theorem entP_at {as : List AV} {n i : Nat} {v : AV} (hi : (entP as n)[i]? = some (some v)) : (entL as)[i]? = some (some v) := by
  unfold entP at hi
  by_cases hlt : i < (entL as).length
  · rwa [List.getElem?_append_left hlt] at hi
  · rw [List.getElem?_append_right (by omega), List.getElem?_replicate] at hi
    split at hi <;> cases hi
theorem ret_nar {ty : FieldType} {x : Int} (hr : ty = .int ∨ (ty = .boolean ∧ (x = 0 ∨ x = 1))) : narrow ty (.int (Int32.ofInt x)) = .int (Int32.ofInt x) := by
  rcases hr with rfl | ⟨rfl, rfl | rfl⟩
  · rfl
  · decide
  · decide
/-- a method's contract out of the walk of its body -/
theorem Tr.of {as : List AV} (hp : plainName (mName mi).cls = true) (ho : (mName mi).cls = RN (mOwn mi)) (hc : Cond.code (mName mi) (mCode mi) (mMaxL mi) (mRet mi) ∈ TBL) (hl : (entL as).length ≤ mMaxL mi) (k : Wt mi mc ms 0 0 0 (entP as (mMaxL mi)) [] sh h P) : Tr mi mc ms as sh h P := by
  intro l D cs ad rl ro sz htr has hh hro hlen
  refine Met.ofW (cc := mCode mi) (maxL := mMaxL mi) (ret := mRet mi) hp rfl ?_
  intro p e s m args below meth c s₁ B hml hv
  obtain ⟨rfl, hsz, hRD, hRS⟩ := hv
  subst hsz
  have hts := atoms_spec (ws := wsM mi) B.pre
  have hown : s.vm.findClass (RN (mOwn mi)) = some m.cls := by rw [← ho]; exact findClass_of_methodNamed B.named
  have hll : (lg_sl (as.map (cv ad))).length ≤ mMaxL mi := by rw [ent_len]; exact hl
  have hl0 := lv_entry (as.map (cv ad)) (n := mMaxL mi) hll
  rw [lg_entry_eq]
  generalize (lg_sl (as.map (cv ad)) ++ List.replicate (mMaxL mi - (lg_sl (as.map (cv ad))).length) Slot.unset).toArray = ls at hl0 ⊢
  have hLr : Lr ls (mMaxL mi) ad (entP as (mMaxL mi)) := ⟨hl0.1, hl0.2.1, fun i v hi => by
    have := ent_mem (ad := ad) as 0 i v (entP_at hi)
    rw [Nat.zero_add] at this
    exact hl0.2.2 _ this⟩
  have cx : CX mi mc ms p (headSpec (wsM mi) { frames := mFr mi, cells := mc, slots := ms, locals := mLo mi }).room s m (as.map (cv ad)).toArray meth c D cs ad rl ro (AA ad sh.length s.heap.size) :=
    ⟨B.exec, B.bytes, B.returns, hml, hown, fun w hw => hts w (List.mem_cons_of_mem _ hw), B.notSynchronized, hRS, fun q hq => Or.inr hq, Nat.le_refl _, Nat.le_refl _, Nat.le_refl _, Nat.le_refl _, (name_of_methodNamed B.named B.method).1⟩
  refine k p l e _ s m _ below meth c D cs ad sh.length rl ro (AA ad sh.length s.heap.size) _ cx ?_ s.heap [] ad ls ⟨hRD, va_S.rf, hLr, fun i v hi => has v (ent_in as i v (entP_at hi)), fun v hv => absurd hv (List.not_mem_nil), hh, hro, Nat.le_refl _, hlen, fun _ _ => rfl⟩ (Nat.zero_le _) (Nat.zero_le _)
  refine ⟨htr, ?_⟩
  intro pc L v sh' h' H locs ad' ls' k0 s0 hr hP st hk hs
  obtain ⟨a1, a2, a3, a4, a5, a6, a7, a8, a9, a10⟩ := st
  refine W.widen (k := mc) (n := ms) hk hs ?_
  have hq : ∀ t : State, t.heap = H → s.WarmedH t.vm → (∃ v1 sh1 h1 ad1, Outcome.returned (v.map (cv ad')) = .returned (v1.map (cv ad1)) ∧ P v1 sh1 h1 ∧ okH h1 ∧ (∀ x ∈ v1, okV sh1.length x) ∧ (∀ k, 1000 ≤ k → h1 k = ro k) ∧ sh.length ≤ sh1.length ∧ sh1.length ≤ 1000 ∧ (∀ k, k < sh.length ∨ 1000 ≤ k → ad1 k = ad k) ∧ RpD D cs ad1 (AA ad sh.length s.heap.size) sh1 h1 t.heap) ∧ va_F (AA ad sh.length s.heap.size) s t :=
    fun t ht _ => ⟨⟨v, sh', h', ad', rfl, hP, a6, fun x hx => a5 x (by simpa using hx), a7, a8, a9, a10, by rw [ht]; exact a1⟩, a2.F ht⟩
  obtain _ | x | w | r := v
  · exact W.vret B.exec B.bytes (B.returns.trans hr.1) hq a2.2.2 hr.2
  · have hty : ∃ ty, meth.sig.returnType = some ty ∧ narrow ty (.int (Int32.ofInt x)) = .int (Int32.ofInt x) := by
      rcases hr.2 with q | ⟨q, q2⟩
      · exact ⟨_, B.returns.trans q, ret_nar (Or.inl rfl)⟩
      · exact ⟨_, B.returns.trans q, ret_nar (Or.inr ⟨rfl, q2⟩)⟩
    obtain ⟨ty, e1, e2⟩ := hty
    exact W.zret B.exec B.bytes e1 e2 hq a2.2.2 hr.1
  · exact hr.elim
  · exact hr.elim
-- calls
def MOK (o i : Nat) (q : MI) (n : Nat) : Prop := Cond.methodLink (RN o) i (mName q) ∈ TBL ∧ Cond.initialized (mName q).cls ∈ TBL ∧ Cond.code (mName q) (mCode q) (mMaxL q) (mRet q) ∈ TBL ∧ (mName q).cls = RN (mOwn q) ∧ (mName q).cls ≠ "java/lang/invoke/MethodHandle" ∧ (mName q).cls ≠ "java/lang/invoke/VarHandle" ∧ (parseMethodDescriptor (mName q).desc).map (fun d => d.parameters.length) = some n
theorem AA_in {s : State} {locs : List Loc} {ls : Array Slot} (hA : ∀ q, s.heap.size ≤ q → A q) (st : SS mi s D cs ad0 n0 ro A H locs ad ls L S sh h) : ∀ q, AA ad sh.length H.size q → A q := by
  intro q hq
  rcases hq with ⟨k, h1, rfl⟩ | hq
  · exact st.1.inA h1
  · exact hA q (Nat.le_trans st.2.1.1 hq)
theorem call_pre {s : State} {locs : List Loc} {ls : Array Slot} (hA : ∀ q, s.heap.size ≤ q → A q) (hRS : RpS D cs ad0 rl ro A s s.heap) (st : SS mi s D cs ad0 n0 ro A H locs ad ls L S sh h) : RpD D cs ad (AA ad sh.length H.size) sh h H ∧ RpS D cs ad rl ro (AA ad sh.length H.size) s H := by
  have hin := AA_in hA st
  refine ⟨st.1.weaken (fun k hk => Or.inl ⟨k, hk, rfl⟩), hRS.1, fun k h1 h2 => ?_, fun k h1 h2 => ?_, hRS.2.2.2.1, hRS.2.2.2.2.1, (hRS.2.2.2.2.2.1.kept (fun a ha hn => st.2.1.2.1 a ha hn)).narrow hin, (hRS.2.2.2.2.2.2.kept (fun a ha hn => st.2.1.2.1 a ha hn)).narrow hin⟩
  · rw [st.2.2.2.2.2.2.2.2.2 k (Or.inr h1)]
    exact ((hRS.2.1 k h1 h2).kept (fun a ha hn => st.2.1.2.1 a ha hn)).narrow hin
  · rw [st.2.2.2.2.2.2.2.2.2 k (Or.inr (by omega))]
    exact ((hRS.2.2.1 k h1 h2).kept (fun a ha hn => st.2.1.2.1 a ha hn)).narrow hin
theorem tr_blind {as : List AV} {sz : Nat} {B : Nat → Prop} : FrameBlind (fun v U => v = (as.map (cv ad)).toArray ∧ U.heap.size = sz ∧ RpD D cs ad B sh h U.heap ∧ RpS D cs ad rl ro B U U.heap) := by
  intro a U g mk hq
  obtain ⟨q0, q1, q2, q3⟩ := hq
  exact ⟨q0, q1, q2, q3.moved (u := U) (U := U.calling g mk a) (Vm.Alike.refl U.vm) (nw_same rfl)⟩
theorem Wt.called {callee : MI} {mc' ms' len : Nat} {as : List AV} {st0 : List AV} {P' : Option AV → SH → HP → Prop} {p : Program} {l : Launch} {e : Env} {R : Room} {s : State} {m : MethodId} {args : Array Value} {below : List Frame} {meth : Method} {c : Code} {Q : State → Prop} {locs : List Loc} {ls : Array Slot} {a : Array Value}
    (cx : CX mi mc ms p R s m args meth c D cs ad0 rl ro A) (he : EN mi mc ms p l e R s m args below meth c D cs ad0 n0 ro A Q P) (st : SS mi s D cs ad0 n0 ro A H locs ad ls L S sh h) (hk1 : k0 + mc' ≤ mc) (hs1 : s0 + ms' ≤ ms)
    (hr : va_Run p l e R s m args below meth c H locs k0 s0 mc' ms' (F0 m pc ls (st0.map (cv ad))) (S.map (cv ad)) ((fun _ st o t => (∃ v sh' h' ad', o = .returned (v.map (cv ad')) ∧ P' v sh' h' ∧ okH h' ∧ (∀ x ∈ v, okV sh'.length x) ∧ (∀ k, 1000 ≤ k → h' k = ro k) ∧ sh.length ≤ sh'.length ∧ sh'.length ≤ 1000 ∧ (∀ k, k < sh.length ∨ 1000 ≤ k → ad' k = ad k) ∧ RpD D cs ad' (AA ad sh.length H.size) sh' h' t.heap) ∧ va_F (AA ad sh.length H.size) st t : Array Value → State → Outcome → State → Prop) a) (AA ad sh.length H.size))
    (kk : ∀ v sh' h', P' v sh' h' → Wt mi mc ms (k0 + mc') (s0 + ms') (pc + 3) L (v.toList ++ S) sh' h' P) : W p l e R s m args below meth c H locs k0 s0 Q (F0 m pc ls (st0.map (cv ad))) := by
  intro T hT X
  obtain ⟨v, st₀, t, T', L', h0, X', hL', e1, e2, ⟨⟨v', sh', h', ad', ev, hP', ok', okv', hro', hle, hle2, hag, hRD⟩, hz, hkp⟩, stp⟩ := hr T hT X
  cases ev
  rw [h0] at hz hkp
  have hin := AA_in cx.2.2.2.2.2.2.2.2.1 st
  obtain ⟨a1, a2, a3, a4, a5, a6, a7, a8, a9, a10⟩ := id st
  have hS1 : va_S A s.heap T'.heap (locs ++ L') := ⟨Nat.le_trans a2.1 (by rw [e1]; exact hz), fun q h1 h2 => by rw [e1, hkp q (Nat.lt_of_lt_of_le h1 a2.1) (fun z => h2 (hin q z))]; exact a2.2.1 q h1 h2, fun q hq => by
      rcases List.mem_append.mp hq with h | h
      · exact a2.2.2 q h
      · exact hin _ (hL' q h)⟩
  have hRD' : RpD D cs ad' A sh' h' T'.heap := by
    rw [e1]
    exact hRD.weaken (fun k hk => hin _ (hRD.inA hk))
  have est : (v'.map (cv ad')).toList ++ S.map (cv ad) = (v'.toList ++ S).map (cv ad') := by
    rw [List.map_append]
    congr 1
    · cases v' <;> rfl
    · exact List.map_congr_left (fun x hx => (cv_agree hag (a5 x hx)).symm)
  obtain ⟨t2, b1, b2⟩ := kk v' sh' h' hP' p l e R s m args below meth c D cs ad0 n0 rl ro A Q cx he T'.heap (locs ++ L') ad' ls
    ⟨hRD', hS1, ⟨a3.1, a3.2.1, fun i v hv => by rw [cv_agree hag (a4 i v hv)]; exact a3.2.2 i v hv⟩, fun i v hv => okV_mono hle (a4 i v hv), fun v hv => by
      rcases List.mem_append.mp hv with q | q
      · exact okv' v (by simpa using q)
      · exact okV_mono hle (a5 v q), ok', hro', Nat.le_trans a8 hle, hle2, fun k hk => by
      rw [hag k (by omega)]
      exact a10 k hk⟩ hk1 hs1 T' rfl X'
  rw [← est] at b1
  exact ⟨t2, stp t2 b1, b2⟩
theorem catS_ok {S : List AV} {ad : Nat → Nat} {m : MethodId} {ls : Array Slot} {st : List Value} (hn : S.length ≤ 4) : 2 * (F0 m pc ls st).monitorRoom + ((S.map (cv ad)).map fun v => v.category).sum ≤ 8 := by
  show 2 * 0 + _ ≤ 8
  have key : ∀ l : List Value, (l.map fun v => v.category).sum ≤ 2 * l.length := by
    intro l
    induction l with
    | nil => simp
    | cons v l ih =>
      have := lv_cat v
      simp only [List.map_cons, List.sum_cons, List.length_cons]
      omega
  have := key (S.map (cv ad))
  rw [List.length_map] at this
  omega
theorem wt_callV {i k : Nat} {callee : MI} {as : List AV} {rs : List (Option (Option Nat))} {mc' ms' : Nat} {P' : Option AV → SH → HP → Prop} (hm : MOK (mOwn mi) i callee as.length) (hin : Cond.instanceMethod (mName callee) ∈ TBL) (hsel : Cond.selects (RN (mOwn callee)) (mName callee) (mName callee) ∈ TBL) (hk : sh[k]? = some (.inr (mOwn callee, rs)))
    (hfr : mFr callee + 1 ≤ mFr mi) (hlo : 8 + (mMaxL callee + 11) + mLo callee ≤ mLo mi) (hS4 : S.length ≤ 4) (hk1 : k0 + mc' ≤ mc) (hs1 : s0 + ms' ≤ ms) (hT : Tr callee mc' ms' (.inr (.inr k) :: as) sh h P') (hd : decode (mCode mi) pc = .ok (.invokevirtual i, 3))
    (kk : ∀ v sh' h', P' v sh' h' → Wt mi mc ms (k0 + mc') (s0 + ms') (pc + 3) L (v.toList ++ S) sh' h' P) : Wt mi mc ms k0 s0 pc L (as.reverse ++ .inr (.inr k) :: S) sh h P := by
  intro p l e R s m args below meth c D cs ad0 n0 rl ro A Q cx he H locs ad ls st hk0 hs0
  have ht := cx.2.2.2.2.2.1
  have hc12 : mOwn callee < 12 := (st.1.2.2 k _ hk).1
  have hok : ∀ v ∈ (.inr (.inr k) :: as : List AV), okV sh.length v := fun v hv => st.sok v (by
    rcases List.mem_cons.mp hv with rfl | hv
    · exact List.mem_append_right _ List.mem_cons_self
    · exact List.mem_append_left _ (List.mem_reverse.mpr hv))
  have st' := st.stack (S' := S) (fun v hv => st.sok v (List.mem_append_right _ (List.mem_cons_of_mem _ hv)))
  have hpre := call_pre cx.2.2.2.2.2.2.2.2.1 cx.2.2.2.2.2.2.2.1 st
  have hM := hT l D cs ad rl ro H.size he.1 hok st.hok st.2.2.2.2.2.2.1 st.2.2.2.2.2.2.2.2.1
  refine Wt.called (callee := callee) (len := 3) (as := as) (a := (Value.ref (ad k) :: as.map (cv ad)).toArray) cx he st' hk1 hs1 ?_ kk
  refine va_runV (bytes := mCode callee) (maxL := mMaxL callee) (ret := mRet callee) (As := as.map (cv ad)) (rest := S.map (cv ad)) (C := RN (mOwn callee)) (b := ad k) (n := as.length) ⟨cx.1, cx.2.1, cx.2.2.2.1, cx.2.2.2.2.1, ht⟩ hM ?_ ⟨tr_blind, ?_, fun U hU hW => ⟨rfl, by rw [hU], by rw [hU]; exact hpre.1, by rw [hU]; exact hpre.2.moved hW.alike (nw_warm hW)⟩⟩ rfl (by simp) st.2.2.1.1 ?_ (catS_ok hS4) hd ⟨Nat.le_trans hk1 cx.2.2.2.2.2.2.2.2.2.2.2.1, Nat.le_trans hs1 cx.2.2.2.2.2.2.2.2.2.2.2.2.1⟩
  · refine cwV as.length ht (GoodIn_TBL ?_) rfl rfl rfl ⟨hm.2.2.2.1, hm.2.2.2.2⟩ ⟨Nat.le_trans hfr cx.2.2.2.2.2.2.2.2.2.1, Nat.le_trans hlo cx.2.2.2.2.2.2.2.2.2.2.1⟩
    intro w hw
    unfold wsV wsM at hw
    simp only [List.cons_append, List.nil_append, List.mem_cons] at hw
    rcases hw with rfl | rfl | rfl | rfl | rfl | hw
    · exact hm.1
    · exact hin
    · exact hsel
    · rw [← hm.2.2.2.1]; exact hm.2.1
    · exact hm.2.2.1
    · exact hw
  · exact va_recv (q := (RN (mOwn callee), TN (mOwn callee), NN (mOwn callee))) cx.2.2.2.2.2.2.2.1.1 st.1.1 (CL_at hc12) (ws_at hk)
  · simp only [List.map_append, List.map_cons, List.map_reverse]
    rfl
theorem wt_callS {i : Nat} {callee : MI} {as : List AV} {mc' ms' : Nat} {P' : Option AV → SH → HP → Prop} (hm : MOK (mOwn mi) i callee as.length) (hst : Cond.static (mName callee) ∈ TBL)
    (hfr : mFr callee + 1 ≤ mFr mi) (hlo : 8 + (mMaxL callee + 11) + mLo callee ≤ mLo mi) (hS4 : S.length ≤ 4) (hk1 : k0 + mc' ≤ mc) (hs1 : s0 + ms' ≤ ms) (hT : Tr callee mc' ms' as sh h P') (hd : decode (mCode mi) pc = .ok (.invokestatic i, 3))
    (kk : ∀ v sh' h', P' v sh' h' → Wt mi mc ms (k0 + mc') (s0 + ms') (pc + 3) L (v.toList ++ S) sh' h' P) : Wt mi mc ms k0 s0 pc L (as.reverse ++ S) sh h P := by
  intro p l e R s m args below meth c D cs ad0 n0 rl ro A Q cx he H locs ad ls st hk0 hs0
  have ht := cx.2.2.2.2.2.1
  have hok : ∀ v ∈ as, okV sh.length v := fun v hv => st.sok v (List.mem_append_left _ (List.mem_reverse.mpr hv))
  have st' := st.stack (S' := S) (fun v hv => st.sok v (List.mem_append_right _ hv))
  have hpre := call_pre cx.2.2.2.2.2.2.2.2.1 cx.2.2.2.2.2.2.2.1 st
  have hM := hT l D cs ad rl ro H.size he.1 hok st.hok st.2.2.2.2.2.2.1 st.2.2.2.2.2.2.2.2.1
  refine Wt.called (callee := callee) (len := 3) (as := as) (a := (as.map (cv ad)).toArray) cx he st' hk1 hs1 ?_ kk
  refine va_runS (bytes := mCode callee) (maxL := mMaxL callee) (ret := mRet callee) (As := as.map (cv ad)) (rest := S.map (cv ad)) (n := as.length) ⟨cx.1, cx.2.1, cx.2.2.2.1, cx.2.2.2.2.1, ht⟩ hM ?_ ⟨tr_blind, fun U hU hW => ⟨rfl, by rw [hU], by rw [hU]; exact hpre.1, by rw [hU]; exact hpre.2.moved hW.alike (nw_warm hW)⟩⟩ rfl (by simp) st.2.2.1.1 ?_ (catS_ok hS4) hd ⟨Nat.le_trans hk1 cx.2.2.2.2.2.2.2.2.2.2.2.1, Nat.le_trans hs1 cx.2.2.2.2.2.2.2.2.2.2.2.2.1⟩
  · refine va_cwS as.length ht (GoodIn_TBL ?_) rfl rfl rfl hm.2.2.2.2 ⟨Nat.le_trans hfr cx.2.2.2.2.2.2.2.2.2.1, Nat.le_trans hlo cx.2.2.2.2.2.2.2.2.2.2.1⟩
    intro w hw
    unfold va_wsS wsM at hw
    simp only [List.cons_append, List.nil_append, List.mem_cons] at hw
    rcases hw with rfl | rfl | rfl | rfl | hw
    · exact hm.1
    · exact hst
    · exact hm.2.1
    · exact hm.2.2.1
    · exact hw
  · simp only [List.map_append, List.map_reverse]
def MOKN (o i : Nat) (q : MI) (n : Nat) : Prop := Cond.methodLinkNest (RN o) i (mName q) RX10 ∈ NWL ∧ Cond.static (mName q) ∈ TBL ∧ Cond.initialized (mName q).cls ∈ TBL ∧ Cond.code (mName q) (mCode q) (mMaxL q) (mRet q) ∈ TBL ∧ (mName q).cls ≠ "java/lang/invoke/MethodHandle" ∧ (mName q).cls ≠ "java/lang/invoke/VarHandle" ∧ (parseMethodDescriptor (mName q).desc).map (fun d => d.parameters.length) = some n
theorem wt_callSN {i : Nat} {callee : MI} {as : List AV} {mc' ms' : Nat} {P' : Option AV → SH → HP → Prop} (hm : MOKN (mOwn mi) i callee as.length)
    (hfr : mFr callee + 1 ≤ mFr mi) (hlo : 8 + (mMaxL callee + 11) + mLo callee ≤ mLo mi) (hS4 : S.length ≤ 4) (hk1 : k0 + mc' ≤ mc) (hs1 : s0 + ms' ≤ ms) (hT : Tr callee mc' ms' as sh h P') (hd : decode (mCode mi) pc = .ok (.invokestatic i, 3))
    (kk : ∀ v sh' h', P' v sh' h' → Wt mi mc ms (k0 + mc') (s0 + ms') (pc + 3) L (v.toList ++ S) sh' h' P) : Wt mi mc ms k0 s0 pc L (as.reverse ++ S) sh h P := by
  intro p l e R s m args below meth c D cs ad0 n0 rl ro A Q cx he H locs ad ls st hk0 hs0
  have ht := cx.2.2.2.2.2.1
  have hok : ∀ v ∈ as, okV sh.length v := fun v hv => st.sok v (List.mem_append_left _ (List.mem_reverse.mpr hv))
  have st' := st.stack (S' := S) (fun v hv => st.sok v (List.mem_append_right _ hv))
  have hpre := call_pre cx.2.2.2.2.2.2.2.2.1 cx.2.2.2.2.2.2.2.1 st
  have hM := hT l D cs ad rl ro H.size he.1 hok st.hok st.2.2.2.2.2.2.1 st.2.2.2.2.2.2.2.2.1
  refine Wt.called (callee := callee) (len := 3) (as := as) (a := (as.map (cv ad)).toArray) cx he st' hk1 hs1 ?_ kk
  refine va_runSN (bytes := mCode callee) (maxL := mMaxL callee) (ret := mRet callee) (As := as.map (cv ad)) (rest := S.map (cv ad)) (n := as.length) (host := RX10) ⟨cx.1, cx.2.1, cx.2.2.2.1, cx.2.2.2.2.1, ht⟩ hM ⟨?_, ht _ hm.2.1, trivial⟩ ⟨tr_blind, fun U hU hW => ⟨rfl, by rw [hU], by rw [hU]; exact hpre.1, by rw [hU]; exact hpre.2.moved hW.alike (nw_warm hW)⟩⟩ rfl (by simp) st.2.2.1.1 ?_ (catS_ok hS4) hd ⟨Nat.le_trans hk1 cx.2.2.2.2.2.2.2.2.2.2.2.1, Nat.le_trans hs1 cx.2.2.2.2.2.2.2.2.2.2.2.2.1⟩
  · refine va_cnB as.length ht (GoodIn_TBL ?_) rfl rfl rfl (cx.2.2.2.2.2.2.2.1.2.2.2.1 _ hm.1) (ht _ hm.2.2.1) hm.2.2.2.2 ⟨Nat.le_trans hfr cx.2.2.2.2.2.2.2.2.2.1, Nat.le_trans hlo cx.2.2.2.2.2.2.2.2.2.2.1⟩
    intro w hw
    rcases List.mem_cons.mp hw with rfl | hw
    · exact hm.2.2.2.1
    · exact hw
  · simp only [List.map_append, List.map_reverse]
theorem wt_ireturn {x : Int} (hr : mRet mi = some .int ∨ (mRet mi = some .boolean ∧ (x = 0 ∨ x = 1))) (hd : decode (mCode mi) pc = .ok (.ireturn, 1)) (hP : P (some (.inl x)) sh h) : Wt mi mc ms k0 s0 pc L [.inl x] sh h P := by
  intro p l e R s m args below meth c D cs ad0 n0 rl ro A Q cx he H locs ad ls st hk0 hs0
  exact he.2 pc L (some (.inl x)) sh h H locs ad ls k0 s0 ⟨hd, hr⟩ hP st hk0 hs0
theorem wt_return (hr : mRet mi = none) (hd : decode (mCode mi) pc = .ok (.return_, 1)) (hP : P none sh h) : Wt mi mc ms k0 s0 pc L [] sh h P := by
  intro p l e R s m args below meth c D cs ad0 n0 rl ro A Q cx he H locs ad ls st hk0 hs0
  exact he.2 pc L none sh h H locs ad ls k0 s0 ⟨hr, hd⟩ hP st hk0 hs0
theorem Wt.mono {P' : Option AV → SH → HP → Prop} (hp : ∀ v sh h, P v sh h → P' v sh h) (k : Wt mi mc ms k0 s0 pc L S sh h P) : Wt mi mc ms k0 s0 pc L S sh h P' := by
  intro p l e R s m args below meth c D cs ad0 n0 rl ro A Q cx he
  exact k p l e R s m args below meth c D cs ad0 n0 rl ro A Q cx ⟨he.1, fun pc L v sh h H locs ad ls k0 s0 h1 h2 => he.2 pc L v sh h H locs ad ls k0 s0 h1 (hp v sh h h2)⟩
end
