/-! the least costs of edits, as a function -/
def edc (s nr : Nat → Int) (x y : Int) : Int := if x = y then 0 else if s 3 < s 2 ∧ ¬ nr (x * 26 + y).toNat = 0 then s 3 else s 2
def eds (s nr a b : Nat → Int) (i j : Nat) (d l u w : Int) : Int :=
  if (0 < i ∧ 0 < j) ∧ ¬ a i = b j ∧ a i = b (j - 1) ∧ b j = a (i - 1) then min (min (min (d + edc s nr (a i) (b j)) (l + s 0)) (u + s 1)) (w + s 4) else min (min (d + edc s nr (a i) (b j)) (l + s 0)) (u + s 1)
def edRow (s nr a b : Nat → Int) (i : Nat) (p2 p1 : Nat → Int) : Nat → Int
  | 0 => ((i : Int) + 1) * s 0
  | j + 1 => eds s nr a b i j (p1 j) (p1 (j + 1)) (edRow s nr a b i p2 p1 j) (p2 (j - 1))
def edRows (s nr a b : Nat → Int) : Nat → (Nat → Int) × (Nat → Int)
  | 0 => (fun _ => 0, fun j => (j : Int) * s 1)
  | i + 1 => ((edRows s nr a b i).2, edRow s nr a b i (edRows s nr a b i).1 (edRows s nr a b i).2)
def ed (s nr a b : Nat → Int) (i j : Nat) : Int := (edRows s nr a b i).2 j
theorem ed_0j {s nr a b : Nat → Int} {j : Nat} : ed s nr a b 0 j = (j : Int) * s 1 := rfl
theorem ed_i0 {s nr a b : Nat → Int} {i : Nat} : ed s nr a b (i + 1) 0 = ((i : Int) + 1) * s 0 := rfl
theorem ed_ss {s nr a b : Nat → Int} {i j : Nat} : ed s nr a b (i + 1) (j + 1) = eds s nr a b i j (ed s nr a b i j) (ed s nr a b i (j + 1)) (ed s nr a b (i + 1) j) (ed s nr a b (i - 1) (j - 1)) := by
  show eds s nr a b i j (ed s nr a b i j) (ed s nr a b i (j + 1)) (ed s nr a b (i + 1) j) ((edRows s nr a b i).1 (j - 1)) = _
  cases i with
  | zero => unfold eds; rw [if_neg (by omega), if_neg (by omega)]
  | succ i => rfl
def okS (s : Nat → Int) : Prop := (1 ≤ s 0 ∧ s 0 ≤ 9) ∧ (1 ≤ s 1 ∧ s 1 ≤ 9) ∧ (1 ≤ s 2 ∧ s 2 ≤ 9) ∧ (1 ≤ s 3 ∧ s 3 ≤ 9) ∧ (1 ≤ s 4 ∧ s 4 ≤ 9)
theorem edc_in {s nr : Nat → Int} {x y : Int} (hs : okS s) : 0 ≤ edc s nr x y ∧ edc s nr x y ≤ 9 := by
  obtain ⟨h0, h1, h2, h3, h4⟩ := hs
  unfold edc
  split
  · omega
  · split <;> omega
theorem mul_in {i : Nat} {x : Int} (h : 1 ≤ x ∧ x ≤ 9) : 0 ≤ (i : Int) * x ∧ (i : Int) * x ≤ 9 * i := by
  have h1 : (0 : Int) ≤ i := Int.natCast_nonneg i
  refine ⟨Int.mul_nonneg h1 (by omega), ?_⟩
  have := Int.mul_le_mul_of_nonneg_left h.2 h1
  omega
theorem ed_in {s nr a b : Nat → Int} (hs : okS s) : ∀ (n i j : Nat), i + j ≤ n → 0 ≤ ed s nr a b i j ∧ ed s nr a b i j ≤ 9 * ((i : Int) + j) := by
  intro n
  have hs' := hs
  obtain ⟨h0, h1, h2, h3, h4⟩ := hs'
  induction n with
  | zero =>
    intro i j h
    have e1 : i = 0 := by omega
    have e2 : j = 0 := by omega
    subst e1 e2
    rw [ed_0j]
    simp
  | succ n ih =>
    intro i j h
    cases i with
    | zero =>
      rw [ed_0j]
      have := mul_in (i := j) h1
      omega
    | succ i =>
      cases j with
      | zero =>
        rw [ed_i0]
        have := mul_in (i := i + 1) h0
        push_cast at this
        push_cast
        omega
      | succ j =>
        rw [ed_ss]
        have a1 := ih i j (by omega)
        have a2 := ih i (j + 1) (by omega)
        have a3 := ih (i + 1) j (by omega)
        have a4 := ih (i - 1) (j - 1) (by omega)
        have a5 := edc_in (nr := nr) (x := a i) (y := b j) hs
        unfold eds
        push_cast at *
        split
        · rename_i e
          have : ((i - 1 : Nat) : Int) = i - 1 := by omega
          have : ((j - 1 : Nat) : Int) = j - 1 := by omega
          omega
        · omega
theorem eds_congr {s nr a b a' b' : Nat → Int} {i j : Nat} {d l u w : Int} (ea : ∀ x, x ≤ i → a' x = a x) (eb : ∀ x, x ≤ j → b' x = b x) : eds s nr a' b' i j d l u w = eds s nr a b i j d l u w := by
  unfold eds
  rw [ea i (Nat.le_refl _), eb j (Nat.le_refl _), ea (i - 1) (by omega), eb (j - 1) (by omega)]
theorem ed_congr {s nr a b a' b' : Nat → Int} : ∀ (n i j : Nat), i + j ≤ n → (∀ x, x < i → a' x = a x) → (∀ x, x < j → b' x = b x) → ed s nr a' b' i j = ed s nr a b i j := by
  intro n
  induction n with
  | zero =>
    intro i j h _ _
    have e1 : i = 0 := by omega
    have e2 : j = 0 := by omega
    subst e1 e2
    rfl
  | succ n ih =>
    intro i j h ea eb
    cases i with
    | zero => rw [ed_0j, ed_0j]
    | succ i =>
      cases j with
      | zero => rw [ed_i0, ed_i0]
      | succ j =>
        rw [ed_ss, ed_ss, eds_congr (fun x hx => ea x (by omega)) (fun x hx => eb x (by omega)), ih i j (by omega) (fun x hx => ea x (by omega)) (fun x hx => eb x (by omega)), ih i (j + 1) (by omega) (fun x hx => ea x (by omega)) (fun x hx => eb x (by omega)), ih (i + 1) j (by omega) (fun x hx => ea x (by omega)) (fun x hx => eb x (by omega)), ih (i - 1) (j - 1) (by omega) (fun x hx => ea x (by omega)) (fun x hx => eb x (by omega))]
theorem CS_okS {h : HP} (hS : CS h) : okS (h 4) := by
  have a0 := hS.1 0 (by decide)
  have a1 := hS.1 1 (by decide)
  have a2 := hS.1 2 (by decide)
  have a3 := hS.1 3 (by decide)
  have a4 := hS.1 4 (by decide)
  simp only [setLo, setHi] at a0 a1 a2 a3 a4
  exact ⟨a0, a1, a2, a3, a4⟩
-- the class's cost of a change; cells of the table
set_option maxRecDepth 100000 in
set_option maxHeartbeats 4000000 in
theorem t_Sett_costOfChange (h : HP) (x y : Int) (hx : 0 ≤ x ∧ x ≤ 25) (hy : 0 ≤ y ∧ y ≤ 25) : trI mSett_costOfChange [.inr (.inr 3), .inl x, .inl y] SH0 h (fun r h' => h' = h ∧ r = edc (h 4) (h 5) x y) := by
  refine startI [some (.inr (.inr 3)), some (.inl x), some (.inl y), none] mSett_costOfChange_c (go [9999] 400 (k := ?_))
  simp (config := {maxSteps := 1000000}) only [↓pI_c, ↓pR_c, ↓pJ_c, ↓pV_c, ↓popN_0, ↓popN_s, ↓lI_0, ↓lR_0, ↓lJ_0, ↓lI_s, ↓lR_s, ↓lJ_s, ↓okSt_0, ↓okSt_I, ↓okSt_R, ↓okSt_N, ↓okSt_s, ↓rtI_s, ↓rtV_n, ↓brP_t, ↓brP_f, ↓sSett_costOfChange_0, ↓sSett_costOfChange_1, ↓sSett_costOfChange_2, ↓sSett_costOfChange_5, ↓sSett_costOfChange_6, ↓sSett_costOfChange_7, ↓sSett_costOfChange_8, ↓rf_3_0, ↓sSett_costOfChange_11, ↓sSett_costOfChange_12, ↓sSett_costOfChange_13, ↓sSett_costOfChange_14, ↓sSett_costOfChange_17, ↓sSett_costOfChange_18, ↓sSett_costOfChange_19, ↓sSett_costOfChange_22, ↓sSett_costOfChange_23, ↓sSett_costOfChange_26, ↓sSett_costOfChange_27, ↓sSett_costOfChange_28, ↓sSett_costOfChange_29, ↓sSett_costOfChange_32, ↓sSett_costOfChange_33, ↓rf_3_1, ↓sSett_costOfChange_36, ↓sSett_costOfChange_37, ↓sSett_costOfChange_39, ↓sSett_costOfChange_40, ↓sSett_costOfChange_41, ↓sSett_costOfChange_42, ↓sSett_costOfChange_43, ↓sSett_costOfChange_46, ↓sSett_costOfChange_47, ↓sSett_costOfChange_50, ↓sSett_costOfChange_51, ↓sSett_costOfChange_52, ↓sSett_costOfChange_55, ↓sSett_costOfChange_56, ↓sSett_costOfChange_59, ↓sSett_costOfChange_60, ↓sSett_costOfChange_61, ↓ln_4, ↓ln_5, List.set_cons_zero, List.set_cons_succ, List.length_cons, List.length_nil, List.contains_cons, List.contains_nil, cat1, brP_d, true_and, and_true, not_false_eq_true, not_true_eq_false, if_true, if_false, Bool.or_false, Bool.false_or, Bool.or_true, Bool.true_or, Bool.false_eq_true, Bool.or_self, false_implies, true_implies, forall_const, and_self, implies_true, true_or, or_true, or_false, false_or, or_self, Classical.not_not, Int.reduceAdd, Int.reduceSub, Int.reduceMul, Int.reduceNeg, Int.reduceToNat, Int.reduceLT, Int.reduceLE, Int.reduceEq, Int.reduceNe, Int.reduceNatCast', Nat.reduceAdd, Nat.reduceSub, Nat.reduceLeDiff, Nat.reduceLT, Nat.reduceEqDiff, Nat.reduceBEq, reduceIte, nx_w, nx_c, up_n, up_s, up_f, ne_eq, Nat.reduceEqDiff, Option.some.injEq, Prod.mk.injEq, exists_eq_left', reduceCtorEq]
  rw [wr_id (x := x * 26) (by omega) (by omega), wr_id (x := x * 26 + y) (by omega) (by omega)]
  unfold edc
  grind
theorem ifmin (x y : Int) : (if y < x then y else x) = min x y := by
  rw [Int.min_def]
  split <;> split <;> omega
set_option maxRecDepth 100000 in
set_option maxHeartbeats 4000000 in
theorem t_Table_cost28 (h : HP) (i j : Int) (hi : 0 ≤ i ∧ i ≤ 92) (hj : 0 ≤ j ∧ j ≤ 12) : trI mTable_cost [.inr (.inr 28), .inl i, .inl j] SH0 h (fun r h' => h' = h ∧ r = h 29 (13 * i.toNat + j.toNat)) := by
  refine startI [some (.inr (.inr 28)), some (.inl i), some (.inl j)] mTable_cost_c (go [9999] 400 (k := ?_))
  simp (config := {maxSteps := 1000000}) only [↓pI_c, ↓pR_c, ↓pJ_c, ↓pV_c, ↓popN_0, ↓popN_s, ↓lI_0, ↓lR_0, ↓lJ_0, ↓lI_s, ↓lR_s, ↓lJ_s, ↓okSt_0, ↓okSt_I, ↓okSt_R, ↓okSt_N, ↓okSt_s, ↓rtI_s, ↓rtV_n, ↓brP_t, ↓brP_f, ↓sTable_cost_0, ↓sTable_cost_1, ↓rf_28_2, ↓rf_41_2, ↓sTable_cost_4, ↓sTable_cost_5, ↓sTable_cost_7, ↓sTable_cost_8, ↓sTable_cost_9, ↓sTable_cost_10, ↓sTable_cost_11, ↓ln_29, ↓ln_42, List.set_cons_zero, List.set_cons_succ, List.length_cons, List.length_nil, List.contains_cons, List.contains_nil, cat1, brP_d, true_and, and_true, not_false_eq_true, not_true_eq_false, if_true, if_false, Bool.or_false, Bool.false_or, Bool.or_true, Bool.true_or, Bool.false_eq_true, Bool.or_self, false_implies, true_implies, forall_const, and_self, implies_true, true_or, or_true, or_false, false_or, or_self, Classical.not_not, Int.reduceAdd, Int.reduceSub, Int.reduceMul, Int.reduceNeg, Int.reduceToNat, Int.reduceLT, Int.reduceLE, Int.reduceEq, Int.reduceNe, Int.reduceNatCast', Nat.reduceAdd, Nat.reduceSub, Nat.reduceLeDiff, Nat.reduceLT, Nat.reduceEqDiff, Nat.reduceBEq, reduceIte, nx_w, nx_c, up_n, up_s, up_f, ne_eq, Nat.reduceEqDiff, Option.some.injEq, Prod.mk.injEq, exists_eq_left', reduceCtorEq]
  rw [wr_id (x := i * 13) (by omega) (by omega), wr_id (x := i * 13 + j) (by omega) (by omega), show (i * 13 + j).toNat = 13 * i.toNat + j.toNat by omega]
  exact ⟨by omega, rfl⟩
set_option maxRecDepth 100000 in
set_option maxHeartbeats 4000000 in
theorem t_Table_leastCost28 (h : HP) (t n i j : Int) (a b : Nat → Int) (hS : CS h) (hi : 1 ≤ i ∧ i ≤ 92) (hj : 1 ≤ j ∧ j ≤ 12) (ht : 0 ≤ t ∧ t + i ≤ 92) (hn : 0 ≤ n ∧ n + j ≤ 1080) (ha : ∀ x : Nat, (x : Int) < i → h 21 (t.toNat + x) = a x ∧ 0 ≤ a x ∧ a x ≤ 25) (hb : ∀ x : Nat, (x : Int) < j → h 7 (n.toNat + x) = b x ∧ 0 ≤ b x ∧ b x ≤ 25)
    (hT : ∀ i' j' : Nat, (i' : Int) ≤ i → (j' : Int) ≤ j → ((i' : Int) < i ∨ (j' : Int) < j) → h 29 (13 * i' + j') = ed (h 4) (h 5) a b i' j') : trI mTable_leastCost [.inr (.inr 28), .inr (.inr 21), .inl t, .inl n, .inl i, .inl j] SH0 h (fun r h' => h' = h ∧ r = ed (h 4) (h 5) a b i.toNat j.toNat) := by
  obtain ⟨I, rfl⟩ : ∃ I : Nat, i = (I : Int) + 1 := ⟨(i - 1).toNat, by omega⟩
  obtain ⟨J, rfl⟩ : ∃ J : Nat, j = (J : Int) + 1 := ⟨(j - 1).toNat, by omega⟩
  have hs := CS_okS hS
  have hs' := hs
  obtain ⟨s0, s1, s2, s3, s4⟩ := hs'
  have v0 := hT I J (by omega) (by omega) (by omega)
  have v1 := hT I (J + 1) (by omega) (by omega) (by omega)
  have v2 := hT (I + 1) J (by omega) (by omega) (by omega)
  have b0 := ed_in (nr := h 5) (a := a) (b := b) hs _ I J (Nat.le_refl _)
  have b1 := ed_in (nr := h 5) (a := a) (b := b) hs _ I (J + 1) (Nat.le_refl _)
  have b2' := ed_in (nr := h 5) (a := a) (b := b) hs _ (I + 1) J (Nat.le_refl _)
  have bc := edc_in (nr := h 5) (x := a I) (y := b J) hs
  have aI := ha I (by omega)
  have bJ := hb J (by omega)
  have key := ed_ss (s := h 4) (nr := h 5) (a := a) (b := b) (i := I) (j := J)
  have ei : ((I : Int) + 1).toNat = I + 1 := by omega
  have ej : ((J : Int) + 1).toNat = J + 1 := by omega
  have t1 : (t + ((I : Int) + 1) - 1).toNat = t.toNat + I := by omega
  have t2 : (n + ((J : Int) + 1) - 1).toNat = n.toNat + J := by omega
  push_cast at b1 b2'
  refine startI [some (.inr (.inr 28)), some (.inr (.inr 21)), some (.inl t), some (.inl n), some (.inl ((I : Int) + 1)), some (.inl ((J : Int) + 1)), none, none, none] mTable_leastCost_c (go [9999] 400 (k := ?_))
  simp (config := {maxSteps := 1000000}) only [↓pI_c, ↓pR_c, ↓pJ_c, ↓pV_c, ↓popN_0, ↓popN_s, ↓lI_0, ↓lR_0, ↓lJ_0, ↓lI_s, ↓lR_s, ↓lJ_s, ↓okSt_0, ↓okSt_I, ↓okSt_R, ↓okSt_N, ↓okSt_s, ↓rtI_s, ↓rtV_n, ↓brP_t, ↓brP_f, ↓sTable_leastCost_0, ↓sTable_leastCost_1, ↓sTable_leastCost_2, ↓sTable_leastCost_4, ↓sTable_leastCost_5, ↓sTable_leastCost_6, ↓sTable_leastCost_7, ↓sTable_leastCost_8, ↓sTable_leastCost_10, ↓sTable_leastCost_11, ↓rf_28_1, ↓rf_41_1, ↓sTable_leastCost_14, ↓rf_6_0, ↓sTable_leastCost_17, ↓sTable_leastCost_18, ↓sTable_leastCost_20, ↓sTable_leastCost_21, ↓sTable_leastCost_22, ↓sTable_leastCost_23, ↓sTable_leastCost_24, ↓sTable_leastCost_26, ↓sTable_leastCost_27, ↓sTable_leastCost_29, ↓sTable_leastCost_30, ↓sTable_leastCost_31, ↓sTable_leastCost_33, ↓sTable_leastCost_34, ↓sTable_leastCost_35, ↓sTable_leastCost_38, ↓sTable_leastCost_39, ↓rf_28_0, ↓rf_41_0, ↓sTable_leastCost_42, ↓sTable_leastCost_44, ↓sTable_leastCost_46, ↓sTable_leastCost_49, ↓sTable_leastCost_50, ↓sTable_leastCost_52, ↓sTable_leastCost_54, ↓sTable_leastCost_55, ↓sTable_leastCost_57, ↓sTable_leastCost_58, ↓sTable_leastCost_59, ↓sTable_leastCost_61, ↓sTable_leastCost_64, ↓sTable_leastCost_65, ↓sTable_leastCost_68, ↓rf_3_0, ↓sTable_leastCost_71, ↓sTable_leastCost_72, ↓sTable_leastCost_73, ↓sTable_leastCost_74, ↓sTable_leastCost_77, ↓sTable_leastCost_79, ↓sTable_leastCost_81, ↓sTable_leastCost_82, ↓sTable_leastCost_84, ↓sTable_leastCost_86, ↓sTable_leastCost_87, ↓sTable_leastCost_88, ↓sTable_leastCost_91, ↓sTable_leastCost_92, ↓sTable_leastCost_95, ↓sTable_leastCost_98, ↓sTable_leastCost_99, ↓sTable_leastCost_100, ↓sTable_leastCost_101, ↓sTable_leastCost_104, ↓sTable_leastCost_106, ↓sTable_leastCost_108, ↓sTable_leastCost_109, ↓sTable_leastCost_112, ↓sTable_leastCost_114, ↓sTable_leastCost_115, ↓sTable_leastCost_118, ↓sTable_leastCost_120, ↓sTable_leastCost_122, ↓sTable_leastCost_125, ↓sTable_leastCost_127, ↓sTable_leastCost_128, ↓sTable_leastCost_131, ↓sTable_leastCost_134, ↓sTable_leastCost_135, ↓sTable_leastCost_137, ↓sTable_leastCost_138, ↓sTable_leastCost_139, ↓sTable_leastCost_140, ↓sTable_leastCost_141, ↓sTable_leastCost_144, ↓sTable_leastCost_146, ↓sTable_leastCost_147, ↓sTable_leastCost_148, ↓sTable_leastCost_150, ↓sTable_leastCost_151, ↓sTable_leastCost_152, ↓sTable_leastCost_153, ↓sTable_leastCost_154, ↓sTable_leastCost_157, ↓sTable_leastCost_159, ↓sTable_leastCost_160, ↓sTable_leastCost_162, ↓sTable_leastCost_163, ↓sTable_leastCost_164, ↓sTable_leastCost_166, ↓sTable_leastCost_167, ↓sTable_leastCost_168, ↓sTable_leastCost_171, ↓sTable_leastCost_172, ↓sTable_leastCost_175, ↓sTable_leastCost_178, ↓sTable_leastCost_179, ↓sTable_leastCost_180, ↓sTable_leastCost_181, ↓sTable_leastCost_184, ↓sTable_leastCost_186, ↓sTable_leastCost_188, ↓ln_4, ↓ln_7, List.set_cons_zero, List.set_cons_succ, List.length_cons, List.length_nil, List.contains_cons, List.contains_nil, cat1, brP_d, true_and, and_true, not_false_eq_true, not_true_eq_false, if_true, if_false, Bool.or_false, Bool.false_or, Bool.or_true, Bool.true_or, Bool.false_eq_true, Bool.or_self, false_implies, true_implies, forall_const, and_self, implies_true, true_or, or_true, or_false, false_or, or_self, Classical.not_not, Int.reduceAdd, Int.reduceSub, Int.reduceMul, Int.reduceNeg, Int.reduceToNat, Int.reduceLT, Int.reduceLE, Int.reduceEq, Int.reduceNe, Int.reduceNatCast', Nat.reduceAdd, Nat.reduceSub, Nat.reduceLeDiff, Nat.reduceLT, Nat.reduceEqDiff, Nat.reduceBEq, reduceIte, nx_w, nx_c, up_n, up_s, up_f, ne_eq, Nat.reduceEqDiff, Option.some.injEq, Prod.mk.injEq, exists_eq_left', reduceCtorEq, ob_28, ob_41, ob_3, ar_4, ar_7, ln_21]
  simp only [wr_id (x := t + ((I : Int) + 1)) (by omega) (by omega), wr_id (x := t + ((I : Int) + 1) - 1) (by omega) (by omega), wr_id (x := t + ((I : Int) + 1) - 2) (by omega) (by omega), wr_id (x := n + ((J : Int) + 1)) (by omega) (by omega), wr_id (x := n + ((J : Int) + 1) - 1) (by omega) (by omega), wr_id (x := n + ((J : Int) + 1) - 2) (by omega) (by omega), wr_id (x := (I : Int) + 1 - 1) (by omega) (by omega), wr_id (x := (J : Int) + 1 - 1) (by omega) (by omega), wr_id (x := (I : Int) + 1 - 2) (by omega) (by omega), wr_id (x := (J : Int) + 1 - 2) (by omega) (by omega), t1, t2, ifmin, aI.1, bJ.1]
  refine ⟨by omega, by omega, ?_⟩
  refine use_p (t_Table_cost28 h _ _ (by omega) (by omega)) ?_
  refine use_p (t_Sett_costOfChange h _ _ aI.2 bJ.2) ?_
  refine use_p (t_Table_cost28 h _ _ (by omega) (by omega)) ?_
  refine use_p (t_Table_cost28 h _ _ (by omega) (by omega)) ?_
  rw [show ((I : Int) + 1 - 1).toNat = I by omega, show ((J : Int) + 1 - 1).toNat = J by omega, ei, ej, v0, v1, v2, wr_id (x := ed (h 4) (h 5) a b I J + edc (h 4) (h 5) (a I) (b J)) (by omega) (by omega), wr_id (x := ed (h 4) (h 5) a b I (J + 1) + h 4 0) (by omega) (by omega), wr_id (x := ed (h 4) (h 5) a b (I + 1) J + h 4 1) (by omega) (by omega), key]
  have no : ¬ ((0 < I ∧ 0 < J) ∧ ¬ a I = b J ∧ a I = b (J - 1) ∧ b J = a (I - 1)) → min (min (ed (h 4) (h 5) a b I J + edc (h 4) (h 5) (a I) (b J)) (ed (h 4) (h 5) a b I (J + 1) + h 4 0)) (ed (h 4) (h 5) a b (I + 1) J + h 4 1) = eds (h 4) (h 5) a b I J (ed (h 4) (h 5) a b I J) (ed (h 4) (h 5) a b I (J + 1)) (ed (h 4) (h 5) a b (I + 1) J) (ed (h 4) (h 5) a b (I - 1) (J - 1)) := fun z => by unfold eds; rw [if_neg z]
  refine ⟨fun h1 => ⟨rfl, no (by omega)⟩, fun h1 => ⟨fun h2 => ⟨rfl, no (by omega)⟩, fun h2 => ⟨fun h3 => ⟨rfl, no (fun z => z.2.1 h3)⟩, fun h3 => ⟨by omega, ?_⟩⟩⟩⟩
  have u1 := hb (J - 1) (by omega)
  have u2 := ha (I - 1) (by omega)
  rw [show (n + ((J : Int) + 1) - 2).toNat = n.toNat + (J - 1) by omega, u1.1, show (t + ((I : Int) + 1) - 2).toNat = t.toNat + (I - 1) by omega, u2.1]
  refine ⟨fun h4 => ⟨rfl, no (fun z => h4 z.2.2.1)⟩, fun h4 => ⟨by omega, fun h5 => ⟨rfl, no (fun z => h5 z.2.2.2)⟩, fun h5 => ?_⟩⟩
  refine use_p (t_Table_cost28 h _ _ (by omega) (by omega)) ?_
  have v3 := hT (I - 1) (J - 1) (by omega) (by omega) (by omega)
  have b3 := ed_in (nr := h 5) (a := a) (b := b) hs _ (I - 1) (J - 1) (Nat.le_refl _)
  rw [show ((I : Int) + 1 - 2).toNat = I - 1 by omega, show ((J : Int) + 1 - 2).toNat = J - 1 by omega, v3, wr_id (x := ed (h 4) (h 5) a b (I - 1) (J - 1) + h 4 4) (by omega) (by omega)]
  unfold eds
  rw [if_pos ⟨⟨by omega, by omega⟩, h3, h4, h5⟩]
  exact ⟨rfl, rfl⟩
set_option maxRecDepth 100000 in
set_option maxHeartbeats 4000000 in
theorem t_Table_cost41 (h : HP) (i j : Int) (hi : 0 ≤ i ∧ i ≤ 92) (hj : 0 ≤ j ∧ j ≤ 12) : trI mTable_cost [.inr (.inr 41), .inl i, .inl j] SH0 h (fun r h' => h' = h ∧ r = h 42 (13 * i.toNat + j.toNat)) := by
  refine startI [some (.inr (.inr 41)), some (.inl i), some (.inl j)] mTable_cost_c (go [9999] 400 (k := ?_))
  simp (config := {maxSteps := 1000000}) only [↓pI_c, ↓pR_c, ↓pJ_c, ↓pV_c, ↓popN_0, ↓popN_s, ↓lI_0, ↓lR_0, ↓lJ_0, ↓lI_s, ↓lR_s, ↓lJ_s, ↓okSt_0, ↓okSt_I, ↓okSt_R, ↓okSt_N, ↓okSt_s, ↓rtI_s, ↓rtV_n, ↓brP_t, ↓brP_f, ↓sTable_cost_0, ↓sTable_cost_1, ↓rf_28_2, ↓rf_41_2, ↓sTable_cost_4, ↓sTable_cost_5, ↓sTable_cost_7, ↓sTable_cost_8, ↓sTable_cost_9, ↓sTable_cost_10, ↓sTable_cost_11, ↓ln_29, ↓ln_42, List.set_cons_zero, List.set_cons_succ, List.length_cons, List.length_nil, List.contains_cons, List.contains_nil, cat1, brP_d, true_and, and_true, not_false_eq_true, not_true_eq_false, if_true, if_false, Bool.or_false, Bool.false_or, Bool.or_true, Bool.true_or, Bool.false_eq_true, Bool.or_self, false_implies, true_implies, forall_const, and_self, implies_true, true_or, or_true, or_false, false_or, or_self, Classical.not_not, Int.reduceAdd, Int.reduceSub, Int.reduceMul, Int.reduceNeg, Int.reduceToNat, Int.reduceLT, Int.reduceLE, Int.reduceEq, Int.reduceNe, Int.reduceNatCast', Nat.reduceAdd, Nat.reduceSub, Nat.reduceLeDiff, Nat.reduceLT, Nat.reduceEqDiff, Nat.reduceBEq, reduceIte, nx_w, nx_c, up_n, up_s, up_f, ne_eq, Nat.reduceEqDiff, Option.some.injEq, Prod.mk.injEq, exists_eq_left', reduceCtorEq]
  rw [wr_id (x := i * 13) (by omega) (by omega), wr_id (x := i * 13 + j) (by omega) (by omega), show (i * 13 + j).toNat = 13 * i.toNat + j.toNat by omega]
  exact ⟨by omega, rfl⟩
set_option maxRecDepth 100000 in
set_option maxHeartbeats 4000000 in
theorem t_Table_leastCost41 (h : HP) (t n i j : Int) (a b : Nat → Int) (hS : CS h) (hi : 1 ≤ i ∧ i ≤ 92) (hj : 1 ≤ j ∧ j ≤ 12) (ht : 0 ≤ t ∧ t + i ≤ 92) (hn : 0 ≤ n ∧ n + j ≤ 1080) (ha : ∀ x : Nat, (x : Int) < i → h 21 (t.toNat + x) = a x ∧ 0 ≤ a x ∧ a x ≤ 25) (hb : ∀ x : Nat, (x : Int) < j → h 7 (n.toNat + x) = b x ∧ 0 ≤ b x ∧ b x ≤ 25)
    (hT : ∀ i' j' : Nat, (i' : Int) ≤ i → (j' : Int) ≤ j → ((i' : Int) < i ∨ (j' : Int) < j) → h 42 (13 * i' + j') = ed (h 4) (h 5) a b i' j') : trI mTable_leastCost [.inr (.inr 41), .inr (.inr 21), .inl t, .inl n, .inl i, .inl j] SH0 h (fun r h' => h' = h ∧ r = ed (h 4) (h 5) a b i.toNat j.toNat) := by
  obtain ⟨I, rfl⟩ : ∃ I : Nat, i = (I : Int) + 1 := ⟨(i - 1).toNat, by omega⟩
  obtain ⟨J, rfl⟩ : ∃ J : Nat, j = (J : Int) + 1 := ⟨(j - 1).toNat, by omega⟩
  have hs := CS_okS hS
  have hs' := hs
  obtain ⟨s0, s1, s2, s3, s4⟩ := hs'
  have v0 := hT I J (by omega) (by omega) (by omega)
  have v1 := hT I (J + 1) (by omega) (by omega) (by omega)
  have v2 := hT (I + 1) J (by omega) (by omega) (by omega)
  have b0 := ed_in (nr := h 5) (a := a) (b := b) hs _ I J (Nat.le_refl _)
  have b1 := ed_in (nr := h 5) (a := a) (b := b) hs _ I (J + 1) (Nat.le_refl _)
  have b2' := ed_in (nr := h 5) (a := a) (b := b) hs _ (I + 1) J (Nat.le_refl _)
  have bc := edc_in (nr := h 5) (x := a I) (y := b J) hs
  have aI := ha I (by omega)
  have bJ := hb J (by omega)
  have key := ed_ss (s := h 4) (nr := h 5) (a := a) (b := b) (i := I) (j := J)
  have ei : ((I : Int) + 1).toNat = I + 1 := by omega
  have ej : ((J : Int) + 1).toNat = J + 1 := by omega
  have t1 : (t + ((I : Int) + 1) - 1).toNat = t.toNat + I := by omega
  have t2 : (n + ((J : Int) + 1) - 1).toNat = n.toNat + J := by omega
  push_cast at b1 b2'
  refine startI [some (.inr (.inr 41)), some (.inr (.inr 21)), some (.inl t), some (.inl n), some (.inl ((I : Int) + 1)), some (.inl ((J : Int) + 1)), none, none, none] mTable_leastCost_c (go [9999] 400 (k := ?_))
  simp (config := {maxSteps := 1000000}) only [↓pI_c, ↓pR_c, ↓pJ_c, ↓pV_c, ↓popN_0, ↓popN_s, ↓lI_0, ↓lR_0, ↓lJ_0, ↓lI_s, ↓lR_s, ↓lJ_s, ↓okSt_0, ↓okSt_I, ↓okSt_R, ↓okSt_N, ↓okSt_s, ↓rtI_s, ↓rtV_n, ↓brP_t, ↓brP_f, ↓sTable_leastCost_0, ↓sTable_leastCost_1, ↓sTable_leastCost_2, ↓sTable_leastCost_4, ↓sTable_leastCost_5, ↓sTable_leastCost_6, ↓sTable_leastCost_7, ↓sTable_leastCost_8, ↓sTable_leastCost_10, ↓sTable_leastCost_11, ↓rf_28_1, ↓rf_41_1, ↓sTable_leastCost_14, ↓rf_6_0, ↓sTable_leastCost_17, ↓sTable_leastCost_18, ↓sTable_leastCost_20, ↓sTable_leastCost_21, ↓sTable_leastCost_22, ↓sTable_leastCost_23, ↓sTable_leastCost_24, ↓sTable_leastCost_26, ↓sTable_leastCost_27, ↓sTable_leastCost_29, ↓sTable_leastCost_30, ↓sTable_leastCost_31, ↓sTable_leastCost_33, ↓sTable_leastCost_34, ↓sTable_leastCost_35, ↓sTable_leastCost_38, ↓sTable_leastCost_39, ↓rf_28_0, ↓rf_41_0, ↓sTable_leastCost_42, ↓sTable_leastCost_44, ↓sTable_leastCost_46, ↓sTable_leastCost_49, ↓sTable_leastCost_50, ↓sTable_leastCost_52, ↓sTable_leastCost_54, ↓sTable_leastCost_55, ↓sTable_leastCost_57, ↓sTable_leastCost_58, ↓sTable_leastCost_59, ↓sTable_leastCost_61, ↓sTable_leastCost_64, ↓sTable_leastCost_65, ↓sTable_leastCost_68, ↓rf_3_0, ↓sTable_leastCost_71, ↓sTable_leastCost_72, ↓sTable_leastCost_73, ↓sTable_leastCost_74, ↓sTable_leastCost_77, ↓sTable_leastCost_79, ↓sTable_leastCost_81, ↓sTable_leastCost_82, ↓sTable_leastCost_84, ↓sTable_leastCost_86, ↓sTable_leastCost_87, ↓sTable_leastCost_88, ↓sTable_leastCost_91, ↓sTable_leastCost_92, ↓sTable_leastCost_95, ↓sTable_leastCost_98, ↓sTable_leastCost_99, ↓sTable_leastCost_100, ↓sTable_leastCost_101, ↓sTable_leastCost_104, ↓sTable_leastCost_106, ↓sTable_leastCost_108, ↓sTable_leastCost_109, ↓sTable_leastCost_112, ↓sTable_leastCost_114, ↓sTable_leastCost_115, ↓sTable_leastCost_118, ↓sTable_leastCost_120, ↓sTable_leastCost_122, ↓sTable_leastCost_125, ↓sTable_leastCost_127, ↓sTable_leastCost_128, ↓sTable_leastCost_131, ↓sTable_leastCost_134, ↓sTable_leastCost_135, ↓sTable_leastCost_137, ↓sTable_leastCost_138, ↓sTable_leastCost_139, ↓sTable_leastCost_140, ↓sTable_leastCost_141, ↓sTable_leastCost_144, ↓sTable_leastCost_146, ↓sTable_leastCost_147, ↓sTable_leastCost_148, ↓sTable_leastCost_150, ↓sTable_leastCost_151, ↓sTable_leastCost_152, ↓sTable_leastCost_153, ↓sTable_leastCost_154, ↓sTable_leastCost_157, ↓sTable_leastCost_159, ↓sTable_leastCost_160, ↓sTable_leastCost_162, ↓sTable_leastCost_163, ↓sTable_leastCost_164, ↓sTable_leastCost_166, ↓sTable_leastCost_167, ↓sTable_leastCost_168, ↓sTable_leastCost_171, ↓sTable_leastCost_172, ↓sTable_leastCost_175, ↓sTable_leastCost_178, ↓sTable_leastCost_179, ↓sTable_leastCost_180, ↓sTable_leastCost_181, ↓sTable_leastCost_184, ↓sTable_leastCost_186, ↓sTable_leastCost_188, ↓ln_4, ↓ln_7, List.set_cons_zero, List.set_cons_succ, List.length_cons, List.length_nil, List.contains_cons, List.contains_nil, cat1, brP_d, true_and, and_true, not_false_eq_true, not_true_eq_false, if_true, if_false, Bool.or_false, Bool.false_or, Bool.or_true, Bool.true_or, Bool.false_eq_true, Bool.or_self, false_implies, true_implies, forall_const, and_self, implies_true, true_or, or_true, or_false, false_or, or_self, Classical.not_not, Int.reduceAdd, Int.reduceSub, Int.reduceMul, Int.reduceNeg, Int.reduceToNat, Int.reduceLT, Int.reduceLE, Int.reduceEq, Int.reduceNe, Int.reduceNatCast', Nat.reduceAdd, Nat.reduceSub, Nat.reduceLeDiff, Nat.reduceLT, Nat.reduceEqDiff, Nat.reduceBEq, reduceIte, nx_w, nx_c, up_n, up_s, up_f, ne_eq, Nat.reduceEqDiff, Option.some.injEq, Prod.mk.injEq, exists_eq_left', reduceCtorEq, ob_28, ob_41, ob_3, ar_4, ar_7, ln_21]
  simp only [wr_id (x := t + ((I : Int) + 1)) (by omega) (by omega), wr_id (x := t + ((I : Int) + 1) - 1) (by omega) (by omega), wr_id (x := t + ((I : Int) + 1) - 2) (by omega) (by omega), wr_id (x := n + ((J : Int) + 1)) (by omega) (by omega), wr_id (x := n + ((J : Int) + 1) - 1) (by omega) (by omega), wr_id (x := n + ((J : Int) + 1) - 2) (by omega) (by omega), wr_id (x := (I : Int) + 1 - 1) (by omega) (by omega), wr_id (x := (J : Int) + 1 - 1) (by omega) (by omega), wr_id (x := (I : Int) + 1 - 2) (by omega) (by omega), wr_id (x := (J : Int) + 1 - 2) (by omega) (by omega), t1, t2, ifmin, aI.1, bJ.1]
  refine ⟨by omega, by omega, ?_⟩
  refine use_p (t_Table_cost41 h _ _ (by omega) (by omega)) ?_
  refine use_p (t_Sett_costOfChange h _ _ aI.2 bJ.2) ?_
  refine use_p (t_Table_cost41 h _ _ (by omega) (by omega)) ?_
  refine use_p (t_Table_cost41 h _ _ (by omega) (by omega)) ?_
  rw [show ((I : Int) + 1 - 1).toNat = I by omega, show ((J : Int) + 1 - 1).toNat = J by omega, ei, ej, v0, v1, v2, wr_id (x := ed (h 4) (h 5) a b I J + edc (h 4) (h 5) (a I) (b J)) (by omega) (by omega), wr_id (x := ed (h 4) (h 5) a b I (J + 1) + h 4 0) (by omega) (by omega), wr_id (x := ed (h 4) (h 5) a b (I + 1) J + h 4 1) (by omega) (by omega), key]
  have no : ¬ ((0 < I ∧ 0 < J) ∧ ¬ a I = b J ∧ a I = b (J - 1) ∧ b J = a (I - 1)) → min (min (ed (h 4) (h 5) a b I J + edc (h 4) (h 5) (a I) (b J)) (ed (h 4) (h 5) a b I (J + 1) + h 4 0)) (ed (h 4) (h 5) a b (I + 1) J + h 4 1) = eds (h 4) (h 5) a b I J (ed (h 4) (h 5) a b I J) (ed (h 4) (h 5) a b I (J + 1)) (ed (h 4) (h 5) a b (I + 1) J) (ed (h 4) (h 5) a b (I - 1) (J - 1)) := fun z => by unfold eds; rw [if_neg z]
  refine ⟨fun h1 => ⟨rfl, no (by omega)⟩, fun h1 => ⟨fun h2 => ⟨rfl, no (by omega)⟩, fun h2 => ⟨fun h3 => ⟨rfl, no (fun z => z.2.1 h3)⟩, fun h3 => ⟨by omega, ?_⟩⟩⟩⟩
  have u1 := hb (J - 1) (by omega)
  have u2 := ha (I - 1) (by omega)
  rw [show (n + ((J : Int) + 1) - 2).toNat = n.toNat + (J - 1) by omega, u1.1, show (t + ((I : Int) + 1) - 2).toNat = t.toNat + (I - 1) by omega, u2.1]
  refine ⟨fun h4 => ⟨rfl, no (fun z => h4 z.2.2.1)⟩, fun h4 => ⟨by omega, fun h5 => ⟨rfl, no (fun z => h5 z.2.2.2)⟩, fun h5 => ?_⟩⟩
  refine use_p (t_Table_cost41 h _ _ (by omega) (by omega)) ?_
  have v3 := hT (I - 1) (J - 1) (by omega) (by omega) (by omega)
  have b3 := ed_in (nr := h 5) (a := a) (b := b) hs _ (I - 1) (J - 1) (Nat.le_refl _)
  rw [show ((I : Int) + 1 - 2).toNat = I - 1 by omega, show ((J : Int) + 1 - 2).toNat = J - 1 by omega, v3, wr_id (x := ed (h 4) (h 5) a b (I - 1) (J - 1) + h 4 4) (by omega) (by omega)]
  unfold eds
  rw [if_pos ⟨⟨by omega, by omega⟩, h3, h4, h5⟩]
  exact ⟨rfl, rfl⟩
