/-! a throw that leaves the class's cell, and its catching in the law's own cell -/
def AX : String := "java/lang/ArrayIndexOutOfBoundsException"
def AN : List String := ["java/lang/IndexOutOfBoundsException", "java/lang/RuntimeException", "java/lang/Exception"]
def mHelpX : MI := (10, yX10_cell, cX10_cell, 3, some .int, 7, 110)
def mLawX : MI := (12, yL_cell, cL_cell, 5, some .int, 8, 140)
def rmX : Room := { frames := 7, cells := 1, slots := 6, locals := 110 }
def rmL : Room := { frames := 8, cells := 1, slots := 6, locals := 140 }
def hwl : List Cond := [.isRef (.static Bundle.tN "UNASSIGNED_STACK" Bundle.steD), .isRef (.static Bundle.tN "SUPPRESSED_SENTINEL" Bundle.listD), .laysStatic Bundle.tN "UNASSIGNED_STACK" Bundle.steD, .laysStatic Bundle.tN "SUPPRESSED_SENTINEL" Bundle.listD, .castable AX AX, .declares (Bundle.initS "java/lang/IndexOutOfBoundsException"), .declares (Bundle.initS "java/lang/RuntimeException"), .declares (Bundle.initS "java/lang/Exception"), .declares (Bundle.initS Bundle.tN)]
theorem own_b : (Bundle.ownAtoms RX10 250 AX AN).all (fun w => decide (w ∈ hwl) || (decide (w ∈ lw_tbl) && goodWord w)) = true := by decide +kernel
theorem own_in {w : Cond} (hw : w ∈ Bundle.ownAtoms RX10 250 AX AN) : w ∈ hwl ∨ w ∈ TBL := by
  have := List.all_eq_true.mp own_b w hw
  simp only [Bool.or_eq_true, Bool.and_eq_true, decide_eq_true_eq] at this
  exact this.imp id (fun z => mem_TBL z.1 z.2)
theorem stQ.ref {n d : String} {A : Nat → Prop} {s : State} {args : Array Value} (h : stQ n d A s s.heap) : (Cond.isRef (.static Bundle.tN n d)).before args s = true := by
  have key : ∀ v : Value, v.isRef = true → va_Z Bundle.tN n d v A s s.heap → (Cond.isRef (.static Bundle.tN n d)).before args s = true := by
    intro v hv hz
    obtain ⟨cf, kf, fi, f, a, cell, h1, h2, h3, h4, h5, h6, h7, -⟩ := hz
    have he : (Term.static Bundle.tN n d).eval args s none [] s = some v := by
      simp [Term.eval, State.fieldNamed?, h1, h2, h4, h5, h6, h7]
    simp only [Cond.before, Cond.holds, Cond.value, he]
    cases v <;> simp_all [Value.isRef]
  rcases h.1 with h | ⟨t, h⟩
  · exact key _ rfl h
  · exact key _ rfl h
theorem stQ.lays {n d : String} {A : Nat → Prop} {s : State} {args : Array Value} (h : stQ n d A s s.heap) : (Cond.laysStatic Bundle.tN n d).before args s = true := by
  obtain ⟨c, k, i, f, a, cell, ⟨h1, h2, h3, h4, h9⟩, ⟨h5, h6, h7, h8⟩, -⟩ := h.2
  show (Cond.laysStatic Bundle.tN n d).holds args s none s [] = true
  exact Cond.laysStatic_of h1 h2 h3 h4 h5 h6 h7 h8 h9
theorem cast_self {s : State} {args : Array Value} {C : String} {c : ClassId} (h : s.vm.findClass C = some c) : (Cond.castable C C).before args s = true := by
  have e : s.vm.assignable c c = true := by
    show s.vm.assignableAux (255 + 1) c c = true
    rw [Vm.assignableAux, Bool.or_eq_true, beq_iff_eq]
    exact Or.inl rfl
  simp only [Cond.before, Cond.holds, Cond.value, h, e]
  rfl
theorem decl_of {s : State} {args : Array Value} {x : MethodName} {bytes : ByteArray} {maxL : Nat} {ret : Option FieldType} (h1 : (Cond.instanceMethod x).before args s = true) (h2 : (Cond.code x bytes maxL ret).before args s = true) : (Cond.declares x).before args s = true := by
  obtain ⟨m, meth, hn, hm, hst, hab⟩ := Cond.instanceMethod_spec h1
  obtain ⟨meth', c, hm', -, -, -, -, -, -, hsig⟩ := Cond.code_spec hn h2
  cases Option.some.inj (hm.symm.trans hm')
  simp [Cond.before, Cond.holds, Cond.value, hn, hm, hst, hsig]
theorem own_at {A : Nat → Prop} {s : State} {args : Array Value} (ht : ∀ w ∈ TBL, w.before args s = true) (hz : XZ A s s.heap) : ∀ w ∈ Bundle.ownAtoms RX10 250 AX AN, w.before args s = true := by
  intro w hw
  rcases own_in hw with h | h
  · unfold hwl at h
    simp only [List.mem_cons, List.not_mem_nil, or_false] at h
    rcases h with rfl | rfl | rfl | rfl | rfl | rfl | rfl | rfl | rfl
    · exact hz.1.ref
    · exact hz.2.ref
    · exact hz.1.lays
    · exact hz.2.lays
    · obtain ⟨c1, k1, hc1, -⟩ := Cond.instantiable_spec (ht (Cond.instantiable AX 6) (mem_TBL (List.mem_of_getElem? (i := 793) (by decide +kernel)) rfl))
      exact cast_self hc1
    · exact decl_of (bytes := Bundle.six) (maxL := 2) (ret := none) (ht _ (mem_TBL (List.mem_of_getElem? (i := 797) (by decide +kernel)) rfl)) (ht _ (mem_TBL (List.mem_of_getElem? (i := 798) (by decide +kernel)) rfl))
    · exact decl_of (bytes := Bundle.six) (maxL := 2) (ret := none) (ht _ (mem_TBL (List.mem_of_getElem? (i := 800) (by decide +kernel)) rfl)) (ht _ (mem_TBL (List.mem_of_getElem? (i := 801) (by decide +kernel)) rfl))
    · exact decl_of (bytes := Bundle.six) (maxL := 2) (ret := none) (ht _ (mem_TBL (List.mem_of_getElem? (i := 803) (by decide +kernel)) rfl)) (ht _ (mem_TBL (List.mem_of_getElem? (i := 804) (by decide +kernel)) rfl))
    · exact decl_of (bytes := LibCode.Throwable.InitS.code) (maxL := 2) (ret := none) (ht _ (mem_TBL (List.mem_of_getElem? (i := 806) (by decide +kernel)) rfl)) (ht _ (mem_TBL (List.mem_of_getElem? (i := 807) (by decide +kernel)) rfl))
  · exact ht w h
/-- what the thrower leaves: a new cell, all else as it was -/
def ThQ : Array Value → State → Outcome → State → Prop := fun _ st o t => ∃ (q : Addr) (ce : Cell), o = .threw q ∧ t.heap[q]? = some ce ∧ ce.vm = .none ∧ st.vm.findClass AX = some ce.cls ∧ st.WarmedH t.vm ∧ st.sameButNew ({ t with vm := st.vm } : State) [] 1 6 ∧ st.heap.size ≤ t.heap.size ∧ ∀ q : Nat, q < st.heap.size → t.heap[q]? = st.heap[q]?
theorem same_heap {s U : State} {k n : Nat} (h : s.sameButNew ({ U with vm := s.vm } : State) [] k n) : s.heap.size ≤ U.heap.size ∧ ∀ q : Nat, q < s.heap.size → U.heap[q]? = s.heap[q]? := by
  obtain ⟨-, h2, -, -, -, h6⟩ := h
  refine ⟨h2, fun q hq => ?_⟩
  obtain ⟨c9, e1, e2, e3, e4⟩ := h6 q _ (Array.getElem?_eq_getElem hq)
  have hs : c9.slots = (s.heap[q]).slots := Array.ext_getElem? fun i => e4 i (fun hm => nomatch hm)
  have h9 : c9 = s.heap[q] := by
    rw [hs] at e2
    exact e2
  have e5 : U.heap[q]? = some c9 := e1
  rw [e5, h9, Array.getElem?_eq_getElem hq]
section
variable {p : Program} {l : Launch} {e : Env} {R : Room} {s : State} {m : MethodId} {args : Array Value} {below : List Frame} {meth : Method} {c : Code} {D : va_G} {cs : Nat → ClassId} {ad0 : Nat → Nat} {n0 rl : Nat} {ro : HP} {A : Nat → Prop} {H : Heap} {locs : List Loc} {ad : Nat → Nat} {ls : Array Slot} {L : List (Option AV)} {S : List AV} {sh : SH} {h : HP} {mc ms k0 s0 pc : Nat} {Q : State → Prop} {mi : MI}
theorem th_throw (cx : CX mHelpX mc ms p R s m args meth c D cs ad0 rl ro A) (hl : l.stackTraces = false) (hsize : ls.size = c.maxLocals) (hout : ∀ x ∈ c.exceptionTable.toList, False) (h1 : 1 ≤ mc) (h6 : 6 ≤ ms) :
    W p l e R s m args below meth c s.heap [] 0 0 (fun t => ∃ o, t.status = .running ∧ Ended t below o ∧ ThQ args s o t) (F0 m 30 ls []) := by
  intro T hT X
  have htr : e.platform.stackTraces = false := (show e.platform.stackTraces = l.stackTraces by rw [X.admits.platform]).trans hl
  obtain ⟨hexec, hb, -, -, hown, ht, hlocks, hRS, -, hfr, hlo, hce, hsl, -⟩ := cx
  have h := own_at (args := args) ht hRS.2.2.2.2.2
  obtain ⟨sa, hstr⟩ := hRS.2.2.2.2.1
  have hown : s.vm.findClass RX10 = some m.cls := hown
  have hfr : 7 ≤ R.frames := hfr
  have hlo : 110 ≤ R.locals := hlo
  have hk : (Cond.classLink RX10 246 AX).before args s = true := ht _ (mem_TBL (List.mem_of_getElem? (i := 870) (by decide +kernel)) rfl)
  have hini : (Cond.initialized AX).before args s = true := ht _ (mem_TBL (List.mem_of_getElem? (i := 66) (by decide +kernel)) rfl)
  have hins : (Cond.instantiable AX 6).before args s = true := h _ (by simp [Bundle.ownAtoms])
  have d3 : decode c.code 33 = .ok (.dup, 1) := by rw [hb]; exact dX10_cell_33
  have d4 : decode c.code 34 = .ok (.ldc 248, 2) := by rw [hb]; exact dX10_cell_34
  obtain ⟨vm₁, cX, kX, hfX, hkX, -, -, X₁, st1⟩ := X.newCold hexec (own := RX10) (C := AX) (index := 246) (n := 6) hown hk hins hini (g := F0 m 30 ls []) rfl (by rw [hb]; exact dX10_cell_30) (by omega) (by omega)
  generalize hT1 : (T.setVm vm₁).pushCell { cls := cX, slots := kX.instanceTypes.map defaultValue, vm := .none } = T1 at X₁ st1
  have hcat : (Value.ref T.heap.size).category = 1 := rfl
  have hcellA : T1.heap[T.heap.size]? = some (freshCell cX kX) := by rw [← hT1]; exact State.heap_pushCell_size _ _
  obtain ⟨U, hsteps, hrun, hend, hW, hsame, ce, hce, hO⟩ := X₁.ctorThrowS hexec htr (own := RX10) (cls := AX) (names := AN) (ic := 250) hown (by decide) (by decide) h (fun x hx => nomatch hx) hfX hkX hcellA (by rw [hT]; exact Nat.le_refl _) (msg := .ref sa) rfl
    (g := { method := m, pc := 36, locals := ls, stack := .ref sa :: .ref T.heap.size :: .ref T.heap.size :: [], locked := none }) rfl hsize rfl rfl (rest := []) rfl
    (by rw [hb]; exact dX10_cell_36) (by rw [hb]; exact dX10_cell_39) (fun x hx => (hout x hx).elim) (show 3 + 3 < R.frames by omega) (by
      show 2 * 0 + ([Value.ref T.heap.size].map fun v => v.category).sum + (13 * (3 + 1) + 42) ≤ R.locals
      simp only [List.map_cons, List.map_nil, List.sum_cons, List.sum_nil, hcat]; omega) hlocks
  obtain ⟨f1, f2⟩ := same_heap hsame
  refine ⟨U, ?_, .threw T.heap.size, hrun, hend, T.heap.size, ce, rfl, hce, hO.vm, hO.cls, hW, hsame, f1, f2⟩
  refine st1 _ ?_
  show Steps p.tables e below (T1.setTop { method := m, pc := 33, locals := ls, stack := .ref T.heap.size :: [], locked := none }) _
  jvm_step X₁.here [X₁.here.top, hexec, d3, Value.category]
  exact X₁.ldcString hexec (own := RX10) (text := "no such letters") (index := 248) (a := sa) hown hstr.1 hstr.2
    (g := { method := m, pc := 34, locals := ls, stack := .ref T.heap.size :: .ref T.heap.size :: [], locked := none }) rfl d4 _ hsteps
/-- rows of a walk in one place of the heap -/
def Wk (mi : MI) (p : Program) (l : Launch) (e : Env) (R : Room) (s : State) (m : MethodId) (args : Array Value) (below : List Frame) (meth : Method) (c : Code) (D : va_G) (cs : Nat → ClassId) (ad0 : Nat → Nat) (n0 : Nat) (ro : HP) (A : Nat → Prop) (H : Heap) (locs : List Loc) (ad : Nat → Nat) (ls : Array Slot) (L : List (Option AV)) (sh : SH) (h : HP) (k0 s0 : Nat) (Q : State → Prop) (pc : Nat) (S : List AV) : Prop :=
  SS mi s D cs ad0 n0 ro A H locs ad ls L S sh h → W p l e R s m args below meth c H locs k0 s0 Q (F0 m pc ls (S.map (cv ad)))
theorem wk_il (cx : CX mi mc ms p R s m args meth c D cs ad0 rl ro A) {i : Fin 4} {x : Int} (hl : L[(i : Nat)]? = some (some (.inl x))) (hd : decode (mCode mi) pc = .ok (.iload_n i, 1)) (k : Wk mi p l e R s m args below meth c D cs ad0 n0 ro A H locs ad ls L sh h k0 s0 Q (pc + 1) (.inl x :: S)) : Wk mi p l e R s m args below meth c D cs ad0 n0 ro A H locs ad ls L sh h k0 s0 Q pc S :=
  fun st => lv_iload_n cx.1 cx.2.1 hd rfl (st.lat hl) (k (st.stack (ok_cons (st.lok hl) st.sok)))
theorem wk_al (cx : CX mi mc ms p R s m args meth c D cs ad0 rl ro A) {i : Fin 4} {x : Nat} (hl : L[(i : Nat)]? = some (some (.inr (.inr x)))) (hd : decode (mCode mi) pc = .ok (.aload_n i, 1)) (k : Wk mi p l e R s m args below meth c D cs ad0 n0 ro A H locs ad ls L sh h k0 s0 Q (pc + 1) (.inr (.inr x) :: S)) : Wk mi p l e R s m args below meth c D cs ad0 n0 ro A H locs ad ls L sh h k0 s0 Q pc S :=
  fun st => lv_aload_n cx.1 cx.2.1 hd rfl (st.lat hl) (k (st.stack (ok_cons (st.lok hl) st.sok)))
theorem wk_ic (cx : CX mi mc ms p R s m args meth c D cs ad0 rl ro A) {n : Int} (hn : inR n) (hd : decode (mCode mi) pc = .ok (.iconst n, 1)) (k : Wk mi p l e R s m args below meth c D cs ad0 n0 ro A H locs ad ls L sh h k0 s0 Q (pc + 1) (.inl n :: S)) : Wk mi p l e R s m args below meth c D cs ad0 n0 ro A H locs ad ls L sh h k0 s0 Q pc S :=
  fun st => lv_iconst cx.1 cx.2.1 hd rfl (k (st.stack (ok_I hn st.sok)))
theorem wk_get (cx : CX mi mc ms p R s m args meth c D cs ad0 rl ro A) {i ci j k : Nat} {rs : List (Option (Option Nat))} {r : Option (Option Nat)} {v : AV} (hf : FOK (mOwn mi) i ci j) (hk : sh[k]? = some (.inr (ci, rs))) (hr : rs[j]? = some r) (hv : ∀ ad, fvOf ad h k r j = cv ad v) (hok : wfC sh.length (.inr (ci, rs)) → okH h → okV sh.length v)
    (hd : decode (mCode mi) pc = .ok (.getfield i, 3)) (kk : Wk mi p l e R s m args below meth c D cs ad0 n0 ro A H locs ad ls L sh h k0 s0 Q (pc + 3) (v :: S)) : Wk mi p l e R s m args below meth c D cs ad0 n0 ro A H locs ad ls L sh h k0 s0 Q pc (.inr (.inr k) :: S) := by
  intro st
  have ht := cx.2.2.2.2.2.1
  refine va_get (D := D) (cl := CL) (ci := ci) (v := cv ad v) (fs := rs.mapIdx (fun j r => fvOf ad h k r j)) (C := RN ci) (T := TN ci) (N := NN ci) cx.1 cx.2.1 ht (inN hf.1) cx.2.2.2.2.1 cx.2.2.2.2.2.2.2.1.1 st.1.1 k (ws_at hk) (CL_at hf.1) j hf.2.1 (ht _ hf.2.2) (fun _ h9 => h9) ?_ hd ?_
  · rw [List.getElem?_mapIdx, hr, ← hv ad]
    rfl
  · exact kk (st.stack (ok_cons (hok (st.1.2.2 k _ hk) st.hok) (ok_tl st.sok)))
theorem wk_lt (cx : CX mi mc ms p R s m args meth c D cs ad0 rl ro A) {off : Int} {tgt : Nat} {x : Int} (ht : (pc : Int) + off = (tgt : Int)) (hd : decode (mCode mi) pc = .ok (.ifCond .lt off, 3)) (kt : x < 0 → Wk mi p l e R s m args below meth c D cs ad0 n0 ro A H locs ad ls L sh h k0 s0 Q tgt S) (kf : ¬ x < 0 → Wk mi p l e R s m args below meth c D cs ad0 n0 ro A H locs ad ls L sh h k0 s0 Q (pc + 3) S) : Wk mi p l e R s m args below meth c D cs ad0 n0 ro A H locs ad ls L sh h k0 s0 Q pc (.inl x :: S) := by
  intro st
  have hx : inR x := ok_hd st.sok
  have hy : inR 0 := ⟨by decide, by decide⟩
  have st' := st.stack (ok_tl st.sok)
  exact lv_if_lt cx.1 cx.2.1 hd ht (fun q => kt ((ofI_lt hx hy).mp q) st') (fun q => kf (fun z => q ((ofI_lt hx hy).mpr z)) st')
theorem wk_gt (cx : CX mi mc ms p R s m args meth c D cs ad0 rl ro A) {off : Int} {tgt : Nat} {x y : Int} (ht : (pc : Int) + off = (tgt : Int)) (hd : decode (mCode mi) pc = .ok (.if_icmp .gt off, 3)) (kt : y < x → Wk mi p l e R s m args below meth c D cs ad0 n0 ro A H locs ad ls L sh h k0 s0 Q tgt S) (kf : ¬ y < x → Wk mi p l e R s m args below meth c D cs ad0 n0 ro A H locs ad ls L sh h k0 s0 Q (pc + 3) S) : Wk mi p l e R s m args below meth c D cs ad0 n0 ro A H locs ad ls L sh h k0 s0 Q pc (.inl y :: .inl x :: S) := by
  intro st
  have hy : inR y := ok_hd st.sok
  have hx : inR x := ok_hd (ok_tl st.sok)
  have st' := st.stack (ok_tl (ok_tl st.sok))
  exact lv_icmp_gt cx.1 cx.2.1 hd ht (fun q => kt ((ofI_lt hy hx).mp q) st') (fun q => kf (fun z => q ((ofI_lt hy hx).mpr z)) st')
theorem wk_le (cx : CX mi mc ms p R s m args meth c D cs ad0 rl ro A) {off : Int} {tgt : Nat} {x y : Int} (ht : (pc : Int) + off = (tgt : Int)) (hd : decode (mCode mi) pc = .ok (.if_icmp .le off, 3)) (kt : x ≤ y → Wk mi p l e R s m args below meth c D cs ad0 n0 ro A H locs ad ls L sh h k0 s0 Q tgt S) (kf : ¬ x ≤ y → Wk mi p l e R s m args below meth c D cs ad0 n0 ro A H locs ad ls L sh h k0 s0 Q (pc + 3) S) : Wk mi p l e R s m args below meth c D cs ad0 n0 ro A H locs ad ls L sh h k0 s0 Q pc (.inl y :: .inl x :: S) := by
  intro st
  have hy : inR y := ok_hd st.sok
  have hx : inR x := ok_hd (ok_tl st.sok)
  have st' := st.stack (ok_tl (ok_tl st.sok))
  exact lv_icmp_le cx.1 cx.2.1 hd ht (fun q => kt ((ofI_le hx hy).mp q) st') (fun q => kf (fun z => q ((ofI_le hx hy).mpr z)) st')
end
def TP (D : va_G) (cs : Nat → ClassId) (ad : Nat → Nat) (rl : Nat) (ro : HP) (sh : SH) (h : HP) (as : List AV) (sz : Nat) : Array Value → State → Prop := fun v U => v = (as.map (cv ad)).toArray ∧ U.heap.size = sz ∧ RpD D cs ad (AA ad sh.length sz) sh h U.heap ∧ RpS D cs ad rl ro (AA ad sh.length sz) U U.heap
/-- outside the table, the class's cell throws -/
theorem th_met {i j : Int} {h : HP} (hr : i < 0 ∨ h 41 3 < i ∨ j < 0 ∨ h 41 4 < j) (l : Launch) (D : va_G) (cs : Nat → ClassId) (ad : Nat → Nat) (rl : Nat) (ro : HP) (sz : Nat) (htr : l.stackTraces = false) (has : ∀ v ∈ ([.inr (.inr 0), .inl i, .inl j] : List AV), okV SH0.length v) (hh : okH h) (hro : ∀ k, 1000 ≤ k → h k = ro k) :
    MetFree l yX10_cell (headSpec (wsM mHelpX) rmX) (TP D cs ad rl ro SH0 h [.inr (.inr 0), .inl i, .inl j] sz) (fun _ _ _ _ _ => True) ThQ := by
  have hc0 : Cond.code yX10_cell cX10_cell 3 (some .int) ∈ wsM mHelpX := List.mem_cons_self
  refine MetFree.of_bodyS (code := cX10_cell) (maxLocals := 3) (ret := some .int) (by decide) ?_ ?_
  · intro args s m hpre hn
    obtain ⟨meth, c, h1, h2, h3, h4, h5, h6, -, -⟩ := Cond.code_spec hn (atoms_spec (ws := wsM mHelpX) hpre _ hc0)
    exact ⟨meth, c, h1, h2, h3, h4, h5, h6⟩
  · intro p e s m args below meth c s₁ B hml hv _
    have hts := atoms_spec (ws := wsM mHelpX) B.pre
    have htab : ∀ x ∈ c.exceptionTable.toList, False := by
      obtain ⟨meth9, c9, h1, h2, -, -, -, -, h7, -⟩ := Cond.code_spec B.named (hts _ hc0)
      cases Option.some.inj (h1.symm.trans B.method)
      cases Option.some.inj (h2.symm.trans (Stand.of_body B).code)
      intro x hx
      rw [Array.isEmpty_iff.mp h7] at hx
      cases hx
    obtain ⟨rfl, hsz, hRD, hRS⟩ := hv
    subst hsz
    have hh0 : s₁.heap = s.heap := by rw [B.state]; rfl
    have hown : s.vm.findClass (RN (mOwn mHelpX)) = some m.cls := findClass_of_methodNamed B.named
    have hll : (lg_sl (([.inr (.inr 0), .inl i, .inl j] : List AV).map (cv ad))).length ≤ 3 := by rw [ent_len]; exact Nat.le_refl 3
    have hl0 := lv_entry (([.inr (.inr 0), .inl i, .inl j] : List AV).map (cv ad)) (n := 3) hll
    have cx : CX mHelpX 1 6 p rmX s m (([.inr (.inr 0), .inl i, .inl j] : List AV).map (cv ad)).toArray meth c D cs ad rl ro (AA ad SH0.length s.heap.size) :=
      ⟨B.exec, B.bytes, B.returns, hml, hown, fun w hw => hts w (List.mem_cons_of_mem _ hw), B.notSynchronized, hRS, fun q hq => Or.inr hq, Nat.le_refl _, Nat.le_refl _, Nat.le_refl _, Nat.le_refl _, (name_of_methodNamed B.named B.method).1⟩
    suffices key : W p l e rmX s m (([.inr (.inr 0), .inl i, .inl j] : List AV).map (cv ad)).toArray below meth c s.heap [] 0 0 (fun t => ∃ o, t.status = .running ∧ Ended t below o ∧ ThQ (([.inr (.inr 0), .inl i, .inl j] : List AV).map (cv ad)).toArray s o t) (entryFrame m (([.inr (.inr 0), .inl i, .inl j] : List AV).map (cv ad)).toArray 3) by
      obtain ⟨t, a1, o, b1, b2, b3⟩ := key s₁ hh0 (Stand.of_body B)
      exact ⟨t, o, a1, b1, b2, b3⟩
    rw [lg_entry_eq]
    generalize (lg_sl (([.inr (.inr 0), .inl i, .inl j] : List AV).map (cv ad)) ++ List.replicate (3 - (lg_sl (([.inr (.inr 0), .inl i, .inl j] : List AV).map (cv ad))).length) Slot.unset).toArray = ls at hl0 ⊢
    have hLr : Lr ls 3 ad [some (.inr (.inr 0)), some (.inl i), some (.inl j)] := ⟨hl0.1, hl0.2.1, fun i' v hi => by
      have := ent_mem (ad := ad) [.inr (.inr 0), .inl i, .inl j] 0 i' v hi
      rw [Nat.zero_add] at this
      exact hl0.2.2 _ this⟩
    have st : SS mHelpX s D cs ad SH0.length ro (AA ad SH0.length s.heap.size) s.heap [] ad ls [some (.inr (.inr 0)), some (.inl i), some (.inl j)] [] SH0 h := ⟨hRD, va_S.rf, hLr, fun i' v hi => has v (ent_in [.inr (.inr 0), .inl i, .inl j] i' v hi), fun v hv => absurd hv (List.not_mem_nil), hh, hro, Nat.le_refl _, by decide, fun _ _ => rfl⟩
    have w30 : ∀ S : List AV, S = [] → Wk mHelpX p l e rmX s m (([.inr (.inr 0), .inl i, .inl j] : List AV).map (cv ad)).toArray below meth c D cs ad SH0.length ro (AA ad SH0.length s.heap.size) s.heap [] ad ls [some (.inr (.inr 0)), some (.inl i), some (.inl j)] SH0 h 0 0 (fun t => ∃ o, t.status = .running ∧ Ended t below o ∧ ThQ (([.inr (.inr 0), .inl i, .inl j] : List AV).map (cv ad)).toArray s o t) 30 S := fun S hS _ => by
      subst hS
      exact th_throw cx htr (hl0.1.trans hml.symm) htab (Nat.le_refl _) (Nat.le_refl _)
    refine (?_ : Wk mHelpX p l e rmX s m (([.inr (.inr 0), .inl i, .inl j] : List AV).map (cv ad)).toArray below meth c D cs ad SH0.length ro (AA ad SH0.length s.heap.size) s.heap [] ad ls [some (.inr (.inr 0)), some (.inl i), some (.inl j)] SH0 h 0 0 (fun t => ∃ o, t.status = .running ∧ Ended t below o ∧ ThQ (([.inr (.inr 0), .inl i, .inl j] : List AV).map (cv ad)).toArray s o t) 0 []) st
    refine wk_il cx (i := 1) rfl dX10_cell_0 ?_
    refine wk_lt cx (tgt := 30) (by decide) dX10_cell_1 (fun _ => w30 [] rfl) (fun z1 => ?_)
    refine wk_il cx (i := 1) rfl dX10_cell_4 ?_
    refine wk_al cx (i := 0) rfl dX10_cell_5 ?_
    refine wk_get cx (k := 0) (rs := [some (some 1), none, some (some 2), some (some 3), some (some 6), some (some 10), some (some 15), some (some 19), some (some 24), some (some 27), some (some 33), some (some 36), some (some 41)]) (r := some (some 41)) (v := .inr (.inr 41)) (fieldAt_ok fa_10_94).1 rfl rfl (fun _ => rfl) (fun hw _ => hw.2.2 12 41 rfl) dX10_cell_6 ?_
    refine wk_get cx (k := 41) (rs := [some (some 3), some (some 6), some (some 42), none, none, none]) (r := none) (v := .inl (h 41 3)) (fieldAt_ok fa_10_240).1 rfl rfl (fun _ => rfl) (fun _ hh => hh 41 3) dX10_cell_9 ?_
    refine wk_gt cx (tgt := 30) (by decide) dX10_cell_12 (fun _ => w30 [] rfl) (fun z2 => ?_)
    refine wk_il cx (i := 2) rfl dX10_cell_15 ?_
    refine wk_lt cx (tgt := 30) (by decide) dX10_cell_16 (fun _ => w30 [] rfl) (fun z3 => ?_)
    refine wk_il cx (i := 2) rfl dX10_cell_19 ?_
    refine wk_al cx (i := 0) rfl dX10_cell_20 ?_
    refine wk_get cx (k := 0) (rs := [some (some 1), none, some (some 2), some (some 3), some (some 6), some (some 10), some (some 15), some (some 19), some (some 24), some (some 27), some (some 33), some (some 36), some (some 41)]) (r := some (some 41)) (v := .inr (.inr 41)) (fieldAt_ok fa_10_94).1 rfl rfl (fun _ => rfl) (fun hw _ => hw.2.2 12 41 rfl) dX10_cell_21 ?_
    refine wk_get cx (k := 41) (rs := [some (some 3), some (some 6), some (some 42), none, none, none]) (r := none) (v := .inl (h 41 4)) (fieldAt_ok fa_10_243).1 rfl rfl (fun _ => rfl) (fun _ hh => hh 41 4) dX10_cell_24 ?_
    exact wk_le cx (tgt := 40) (by decide) dX10_cell_27 (fun z4 => absurd z4 (by omega)) (fun _ => w30 [] rfl)
