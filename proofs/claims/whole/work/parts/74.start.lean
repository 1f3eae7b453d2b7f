/-! the law's entry -/
def R_law : String := "MisspellHelpLaw"
def lw_P (b : Addr) (xs : List Int32) (args : Array Value) (s : State) : Prop := args = #[.ref b] ∧ s.IntsAt b xs ∧ xs.length ≤ 2048 ∧ (Jvm.Cond.and given_1 narrow_1).before args s = true
def lw_Q (_ : Array Value) (s : State) (o : Outcome) (t : State) : Prop := o = .returned (some (.int 1)) ∧ Framed s o t [] 603072 7198826
def lw_Z (below : List Frame) (a : Array Value) (s : State) : State → Prop := fun t => ∃ o, t.status = .running ∧ Ended t below o ∧ lw_Q a s o t
/-- the law's own end, with 1 on the stack, nothing written that was there before, its room as the claim has it -/
theorem lw_ret {p : Program} {l : Launch} {e : Env} {s : State} {m : MethodId} {below : List Frame} {meth : Method} {c : Code} {b : Nat} (hx : p.tables.exec = Jvm.exec) (hb : c.code = code) (hr : meth.sig.returnType = ret) (hlocks : meth.locks = false) {pc : Nat} {H : Heap} {ls : Array Slot} (hdg : decode code pc = .ok (.ireturn, 1)) : W p l e room_1 s m #[Value.ref b] below meth c H [] 603072 7198826 (lw_Z below #[Value.ref b] s) (F0 m pc ls [.int 1]) := by
  intro T hT X
  obtain ⟨fs, hret, hrun, hended, hW, hframe⟩ := X.leave (v := some (.int 1)) (hlocks := hlocks) (fun h => by rw [hr] at h; cases h)
  have hmeth' : T.vm.method? m = some meth := X.method'
  refine ⟨T.setFrames fs, ?_, .returned (some (.int 1)), hrun, hended, rfl, ⟨_, rfl⟩, hW, hframe⟩
  jvm_step X.here [X.here.top, hx, hb, hdg, hmeth', hr, ret, narrow_b1]
  (try refine ⟨rfl, ?_⟩); (try refine ⟨rfl, ?_⟩)
  first | (intro acts; rw [hret _ acts rfl rfl rfl]) | rw [hret _ _ rfl rfl rfl]
  exact Steps.refl _
/-- what holds at the law's entry: the machine, the code, the tables' words (any of lw_tbl by 'hts w (by decide +kernel)'), the script of L ints xs at the cell b, what the Statement gives of the start (any of its parts by flat_of_before) -/
def lw_At (p : Program) (s : State) (m : MethodId) (meth : Method) (c : Code) (b L : Nat) (xs : Nat → Int32) : Prop :=
  p.tables.exec = Jvm.exec ∧ c.code = code ∧ meth.sig.returnType = ret ∧ c.maxLocals = 7 ∧ s.vm.findClass R_law = some m.cls ∧ (∀ w ∈ lw_tbl, w.before #[Value.ref b] s = true) ∧ va_X b L xs s s.heap ∧ b < s.heap.size ∧ meth.locks = false ∧ (Jvm.Cond.and given_1 narrow_1).before #[Value.ref b] s = true
theorem arr_of {args : Array Value} {s : State} {ty : FieldType} (h : (Cond.arrayClass ty).before args s = true) : ∃ c, ArrOfT s c ty ∧ s.vm.findClass ("[" ++ ty.toString) = some c := by
  obtain ⟨c, k, comp, h1, h2, h3⟩ := Cond.arrayClass_spec (show (Cond.arrayClass ty).holds args s none s [] = true from h)
  exact ⟨c, fun N z => ⟨(fun k h => by cases h), k, h2, comp, h3⟩, h1⟩
def tv (k j : Nat) : Int := match k with
  | 1001 => setF j
  | 1002 => setLo j
  | _ => setHi j
theorem tv_in (k j : Nat) : inR (tv k j) := by
  unfold tv
  split
  · unfold setF; split <;> exact ⟨by decide, by decide⟩
  · unfold setLo; split <;> exact ⟨by decide, by decide⟩
  · unfold setHi; split <;> exact ⟨by decide, by decide⟩
theorem nar_mem : ∀ k : Nat, k < 3 → Cond.arrayOf (.static RX10 (roN (1001 + k)) "[I") .int ∈ flatC (Jvm.Cond.and given_1 narrow_1) ∧ Cond.eq (.length (.static RX10 (roN (1001 + k)) "[I")) (.int 9) ∈ flatC (Jvm.Cond.and given_1 narrow_1) ∧ ∀ j : Nat, j < 9 → Cond.eq (.elem (.static RX10 (roN (1001 + k)) "[I") (.int (Int32.ofNat j))) (.int (Int32.ofInt (tv (1001 + k) j))) ∈ flatC (Jvm.Cond.and given_1 narrow_1) := by decide +kernel
theorem tab_mem : ∀ k : Nat, k < 3 → Cond.laysStatic RX10 (roN (1001 + k)) "[I" ∈ lw_tbl := by decide +kernel
theorem ins_mem : ∀ k : Nat, k < 12 → Cond.instantiable (RN k) (NN k) ∈ lw_tbl := by decide +kernel
def roS (L : Nat) (xs : Nat → Int32) : HP := fun k j => if k < 1000 then 0 else if k = 1000 then (if j < L then (xs j).toInt else 0) else if k = 1004 then (if j = 0 then (L : Int) else 0) else tv k j
set_option maxHeartbeats 4000000 in
set_option maxRecDepth 100000 in
/-- the law, from its entry -/
theorem whole_start {p : Program} {e : Env} {s : State} {m : MethodId} {below : List Frame} {meth : Method} {c : Code} (l : Launch) (htr : l.stackTraces = false) (hnm : meth.name = yL_law.name) {b L : Nat} {xs : Nat → Int32} (hL : L ≤ 2048) (C0 : lw_At p s m meth c b L xs) : W p l e room_1 s m #[Value.ref b] below meth c s.heap [] 0 0 (lw_Z below #[Value.ref b] s) (entryFrame m ([Value.ref b] : List Value).toArray 7) := by
  obtain ⟨hx, hb, hr, hml, hown, hts, hX, hbl, hlocks, hgv⟩ := id C0
  have hs := flat_of_before _ hgv
  have ht : ∀ w ∈ TBL, w.before #[Value.ref b] s = true := fun w hw => hts w (TBL_in hw)
  have hA : ∀ a : Nat, a < s.heap.size → ¬ (fun q : Nat => s.heap.size ≤ q) a := fun a h1 h2 => absurd h1 (Nat.not_lt.mpr h2)
  -- classes
  have hkn : ∀ k : Nat, ∃ (cC : ClassId) (iS : Nat → Nat), k < 12 → u_Kn s (RN k) (TN k) (NN k) cC iS := fun k => by
    by_cases hk : k < 12
    · obtain ⟨c1, i1, h1⟩ := u_known (C := RN k) (T := TN k) (N := NN k) (n := NN k) ht (inN hk) (hts _ (ins_mem k hk))
      exact ⟨c1, i1, fun _ => h1⟩
    · exact ⟨0, fun _ => 0, fun z => absurd z hk⟩
  obtain ⟨D, hD⟩ : ∃ D : va_G, ∀ k : Nat, k < 12 → u_Kn s (RN k) (TN k) (NN k) (D.1 k) (D.2 k) := ⟨(fun k => Classical.choose (hkn k), fun k => Classical.choose (Classical.choose_spec (hkn k))), fun k hk => Classical.choose_spec (Classical.choose_spec (hkn k)) hk⟩
  obtain ⟨ci, ai1, ai2⟩ := arr_of (hts (.arrayClass .int) (by decide +kernel))
  obtain ⟨cz, az1, az2⟩ := arr_of (hts (.arrayClass .boolean) (by decide +kernel))
  obtain ⟨cj, aj1, aj2⟩ := arr_of (hts (.arrayClass .long) (by decide +kernel))
  obtain ⟨cs, hcs0, hcs1, hcs2⟩ : ∃ cs : Nat → ClassId, cs 0 = ci ∧ cs 1 = cz ∧ cs 2 = cj := ⟨fun k => if k = 0 then ci else if k = 1 then cz else cj, rfl, rfl, rfl⟩
  have hK : va_K D CL (tysOf cs) s := by
    refine ⟨fun k q hq => ?_, fun k q hq => ?_⟩
    · by_cases hk : k < 12
      · rw [CL_at hk] at hq
        cases hq
        exact hD k hk
      · have : CL.length = 12 := rfl
        rw [List.getElem?_eq_none (by omega)] at hq
        cases hq
    · unfold tysOf at hq
      match k, hq with
      | 0, hq => cases hq; rw [hcs0]; exact ⟨ai1, ai2⟩
      | 1, hq => cases hq; rw [hcs1]; exact ⟨az1, az2⟩
      | 2, hq => cases hq; rw [hcs2]; exact ⟨aj1, aj2⟩
      | k + 3, hq => simp at hq
  -- the static tables
  have hst : ∀ k : Nat, k < 3 → ∃ t : Nat, va_T .int t 9 (fun j => .int (Int32.ofInt (tv (1001 + k) j))) (fun q : Nat => s.heap.size ≤ q) s s.heap ∧ va_Z RX10 (roN (1001 + k)) "[I" (.ref t) (fun q : Nat => s.heap.size ≤ q) s s.heap := by
    intro k hk
    obtain ⟨m1, m2, m3⟩ := nar_mem k hk
    obtain ⟨t, h1, h2⟩ := va_Tof (N := 9) (f := fun j => .int (Int32.ofInt (tv (1001 + k) j))) (A := fun q : Nat => s.heap.size ≤ q) (by decide) (hs _ m1) (va_eqt (hs _ m2)) (fun j hj => va_eqt (hs _ (m3 j hj))) hA
    exact ⟨t, h2, va_Zof (hts _ (tab_mem k hk)) (hts (.initialized RX10) (by decide +kernel)) h1 hA⟩
  obtain ⟨t1, g1, z1⟩ := hst 0 (by decide)
  obtain ⟨t2, g2, z2⟩ := hst 1 (by decide)
  obtain ⟨t3, g3, z3⟩ := hst 2 (by decide)
  obtain ⟨ad, had⟩ : ∃ ad : Nat → Nat, ad 1000 = b ∧ ad 1001 = t1 ∧ ad 1002 = t2 ∧ ad 1003 = t3 := ⟨fun k => if k = 1000 then b else if k = 1001 then t1 else if k = 1002 then t2 else t3, rfl, rfl, rfl, rfl⟩
  have hro4 : roS L xs 1004 0 = L := rfl
  have hRS : RpS D cs ad 0 (roS L xs) (fun q : Nat => s.heap.size ≤ q) s s.heap := by
    refine ⟨hK, fun k h1 h2 => ?_, fun k h1 h2 => ?_, fun w hw => ?_, ?_, ?_, ?_⟩
    · have : k = 1000 ∨ k = 1001 ∨ k = 1002 ∨ k = 1003 := by omega
      rcases this with rfl | rfl | rfl | rfl
      · rw [had.1]
        obtain ⟨scr, q1, q2, q3, q4, q5⟩ := hX
        have eL : roL (roS L xs 1004 0).toNat 1000 = L := rfl
        rw [eL]
        refine ⟨scr, q1, q2, q3, by omega, by rw [q4], fun j hj => ?_, hA b hbl⟩
        rw [q5 j hj]
        have e1 : roS L xs 1000 j = (xs j).toInt := by
          show (if j < L then (xs j).toInt else 0) = _
          rw [if_pos hj]
        show some (Value.int (xs j)) = some (Value.int (Int32.ofInt (roS L xs 1000 j)))
        rw [e1, Int32.ofInt_toInt]
      · rw [had.2.1]; exact g1
      · rw [had.2.2.1]; exact g2
      · rw [had.2.2.2]; exact g3
    · have : k = 1001 ∨ k = 1002 ∨ k = 1003 := by omega
      rcases this with rfl | rfl | rfl
      · rw [had.2.1]; exact z1
      · rw [had.2.2.1]; exact z2
      · rw [had.2.2.2]; exact z3
    · unfold NWL at hw
      simp only [List.mem_cons, List.not_mem_nil, or_false] at hw
      rcases hw with rfl | rfl | rfl | rfl
      · exact va_Nw.of rfl (hts _ (by decide +kernel))
      · exact va_Nw.of rfl (hts _ (by decide +kernel))
      · exact va_Nw.of rfl (hts _ (by decide +kernel))
      · exact va_Nw.of rfl (hts _ (by decide +kernel))
    · obtain ⟨a, c1, cell, k, q1, -⟩ := Cond.exactly_spec (show (Cond.exactly (.string RX10 248) "java/lang/String").holds #[Value.ref b] s none s [] = true from hs _ (by decide +kernel))
      exact ⟨a, vk_R.of (hts (.stringRef RX10 248 "no such letters") (by decide +kernel)) q1⟩
    · have hl := hts (.laysStatic Bundle.tN "UNASSIGNED_STACK" Bundle.steD) (by decide +kernel)
      refine ⟨va_Zqof hl (hts (.initialized Bundle.tN) (by decide +kernel)) (hs _ (by decide +kernel)) hA, ?_⟩
      obtain ⟨c, k, i, f, a, cell, h1, h2, h3, h4, h5, h6, h7, h8, h9⟩ := Cond.laysStatic_spec hl
      exact ⟨c, k, i, f, a, cell, ⟨h1, h2, h3, h4, h9⟩, ⟨h5, h6, h7, h8⟩, hA a (Array.getElem?_eq_some_iff.mp h5).1⟩
    · have hl := hts (.laysStatic Bundle.tN "SUPPRESSED_SENTINEL" Bundle.listD) (by decide +kernel)
      refine ⟨va_Zqof hl (hts (.initialized Bundle.tN) (by decide +kernel)) (hs _ (by decide +kernel)) hA, ?_⟩
      obtain ⟨c, k, i, f, a, cell, h1, h2, h3, h4, h5, h6, h7, h8, h9⟩ := Cond.laysStatic_spec hl
      exact ⟨c, k, i, f, a, cell, ⟨h1, h2, h3, h4, h9⟩, ⟨h5, h6, h7, h8⟩, hA a (Array.getElem?_eq_some_iff.mp h5).1⟩
  have cx : CX mLaw_law 600 20000 p room_1 s m #[Value.ref b] meth c D cs ad 0 (roS L xs) (fun q : Nat => s.heap.size ≤ q) :=
    ⟨hx, hb, hr, hml, hown, ht, hlocks, hRS, fun _ h => h, by decide, by decide, by decide, by decide, hnm⟩
  have hP : va_P D CL (wsOf cs ad (roS L xs) ShC0) s.heap := fun k q h => by
    have : (wsOf cs ad (roS L xs) ShC0) = [] := rfl
    rw [this] at h
    simp at h
  have hDD : va_D (fun q : Nat => s.heap.size ≤ q) (wsOf cs ad (roS L xs) ShC0) := ⟨fun i j p q h => by
    have : (wsOf cs ad (roS L xs) ShC0) = [] := rfl
    rw [this] at h
    simp at h, fun k q h => by
    have : (wsOf cs ad (roS L xs) ShC0) = [] := rfl
    rw [this] at h
    simp at h⟩
  have hok : okH (roS L xs) := fun k j => by
    unfold roS
    split
    · exact ⟨by decide, by decide⟩
    · split
      · split
        · have := (xs j).le_toInt
          have := (xs j).toInt_lt
          exact ⟨by omega, by omega⟩
        · exact ⟨by decide, by decide⟩
      · split
        · split
          · exact ⟨by omega, by omega⟩
          · exact ⟨by decide, by decide⟩
        · exact tv_in k j
  have hl0 := lv_entry ([.ref b]) (n := 7) (Nat.le_of_ble_eq_true rfl)
  rw [lg_entry_eq]
  generalize (lg_sl ([.ref b]) ++ List.replicate (7 - (lg_sl ([.ref b])).length) Slot.unset).toArray = ls at hl0 ⊢
  have hLr : Lr ls 7 ad [some (.inr (.inr 1000)), none, none, none, none, none, none] := ⟨hl0.1, hl0.2.1, fun i v hi => by
    match i, hi with
    | 0, hi =>
      cases hi
      show ls[0]? = some (Slot.val (.ref (ad 1000)))
      rw [had.1]
      exact hl0.2.2 (0, .ref b) List.mem_cons_self
    | 1, hi => cases hi
    | 2, hi => cases hi
    | 3, hi => cases hi
    | 4, hi => cases hi
    | 5, hi => cases hi
    | 6, hi => cases hi
    | i + 7, hi => simp at hi⟩
  have st : SS mLaw_law s D cs ad 0 (roS L xs) (fun q : Nat => s.heap.size ≤ q) s.heap [] ad ls [some (.inr (.inr 1000)), none, none, none, none, none, none] [] ShC0 (roS L xs) :=
    ⟨⟨hP, hDD, fun k c h => by simp [ShC0] at h⟩, va_S.rf, hLr, fun i v hi => by
      match i, hi with
      | 0, hi => cases hi; exact Or.inr (by decide)
      | 1, hi => cases hi
      | 2, hi => cases hi
      | 3, hi => cases hi
      | 4, hi => cases hi
      | 5, hi => cases hi
      | 6, hi => cases hi
      | i + 7, hi => simp at hi, fun v hv => absurd hv (List.not_mem_nil), hok, fun _ _ => rfl, Nat.zero_le _, by decide, fun _ _ => rfl⟩
  have w := law_all (P := fun v _ _ => v = some (.inl 1)) lc_cell (fun _ _ => rfl) (h := roS L xs) (fun k _ hk j => by unfold roS; rw [if_pos hk]) (fun j _ => rfl) (fun j _ => ⟨rfl, rfl⟩) (by rw [hro4]; omega) (by rw [hro4]; omega)
  refine w p l e room_1 s m #[Value.ref b] below meth c D cs ad 0 0 (roS L xs) (fun q : Nat => s.heap.size ≤ q) (lw_Z below #[Value.ref b] s) cx ⟨htr, ?_⟩ s.heap [] ad ls st (by decide) (by decide)
  intro pc L' v sh h H locs ad' ls' k0 s0 hr' hv st' hk hs'
  subst hv
  refine va_forget (fun q hq => st'.2.1.2.2 q hq) ?_
  refine W.widen (k := 603072) (n := 7198826) (by omega) (by omega) ?_
  exact lw_ret hx hb hr hlocks hr'.1
