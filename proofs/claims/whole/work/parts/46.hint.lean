/-! the i-th of those that ..: counting; the hints of both sides -/
noncomputable def cntP (p : Nat → Prop) : Nat → Int
  | 0 => 0
  | n + 1 => cntP p n + @ite _ (p n) (Classical.propDecidable _) 1 0
theorem cntP_y {p : Nat → Prop} {n : Nat} (h : p n) : cntP p (n + 1) = cntP p n + 1 := by
  show cntP p n + @ite _ (p n) (Classical.propDecidable _) 1 0 = cntP p n + 1
  rw [if_pos h]
theorem cntP_n {p : Nat → Prop} {n : Nat} (h : ¬ p n) : cntP p (n + 1) = cntP p n := by
  show cntP p n + @ite _ (p n) (Classical.propDecidable _) 1 0 = cntP p n
  rw [if_neg h]
  exact Int.add_zero _
theorem cntP_in (p : Nat → Prop) : ∀ n : Nat, 0 ≤ cntP p n ∧ cntP p n ≤ n
  | 0 => ⟨Int.le_refl _, Int.le_refl _⟩
  | n + 1 => by
    have := cntP_in p n
    by_cases z : p n
    · rw [cntP_y z]; push_cast; omega
    · rw [cntP_n z]; push_cast; omega
theorem cntP_mono (p : Nat → Prop) (a : Nat) : ∀ d : Nat, cntP p a ≤ cntP p (a + d)
  | 0 => Int.le_refl _
  | d + 1 => by
    have := cntP_mono p a d
    rw [show a + (d + 1) = a + d + 1 by omega]
    by_cases z : p (a + d)
    · rw [cntP_y z]; omega
    · rw [cntP_n z]; omega
theorem cntP_lt {p : Nat → Prop} {a b : Nat} (h : a < b) (ha : p a) : cntP p a < cntP p b := by
  have := cntP_mono p (a + 1) (b - (a + 1))
  rw [show a + 1 + (b - (a + 1)) = b by omega, cntP_y ha] at this
  omega
theorem cntP_ex (p : Nat → Prop) : ∀ (n : Nat) (i : Int), 0 ≤ i → i < cntP p n → ∃ w, w < n ∧ p w ∧ cntP p w = i
  | 0, i, h0, h1 => by
    have : cntP p 0 = 0 := rfl
    omega
  | n + 1, i, h0, h1 => by
    by_cases z : p n
    · rw [cntP_y z] at h1
      by_cases e : i = cntP p n
      · exact ⟨n, by omega, z, e.symm⟩
      · obtain ⟨w, w1, w2, w3⟩ := cntP_ex p n i h0 (by omega)
        exact ⟨w, by omega, w2, w3⟩
    · rw [cntP_n z] at h1
      obtain ⟨w, w1, w2, w3⟩ := cntP_ex p n i h0 h1
      exact ⟨w, by omega, w2, w3⟩
theorem cntP_inj {p : Nat → Prop} {a b : Nat} (ha : p a) (hb : p b) (e : cntP p a = cntP p b) : a = b := by
  rcases Nat.lt_trichotomy a b with z | z | z
  · have := cntP_lt z ha; omega
  · exact z
  · have := cntP_lt z hb; omega
theorem cntP_0 {p : Nat → Prop} (h : ∀ w, ¬ p w) : ∀ n : Nat, cntP p n = 0
  | 0 => rfl
  | n + 1 => by rw [cntP_n (h n)]; exact cntP_0 h n
/-- r is the i-th of those below n that p holds of, d if there is none -/
def pkP (p : Nat → Prop) (n i r d : Int) : Prop := (∃ w : Nat, (w : Int) < n ∧ p w ∧ cntP p w = i ∧ r = w) ∨ ((∀ w : Nat, (w : Int) < n → p w → ¬ cntP p w = i) ∧ r = d)
theorem pkP_uni {p : Nat → Prop} {n i r r' d : Int} (h : pkP p n i r d) (h' : pkP p n i r' d) : r = r' := by
  rcases h with ⟨w, a1, a2, a3, a4⟩ | ⟨a1, a2⟩
  · rcases h' with ⟨w', b1, b2, b3, b4⟩ | ⟨b1, b2⟩
    · have := cntP_inj a2 b2 (by omega)
      subst this
      omega
    · exact absurd a3 (b1 w a1 a2)
  · rcases h' with ⟨w', b1, b2, b3, b4⟩ | ⟨b1, b2⟩
    · exact absurd b3 (a1 w' b1 b2)
    · omega
theorem pkP_s {p : Nat → Prop} {n i r d : Int} (h0 : 0 ≤ n) (hp : pkP p n i r d) : (¬ p n.toNat → pkP p (n + 1) i r d) ∧ (p n.toNat → cntP p n.toNat = i → pkP p (n + 1) i n d) ∧ (p n.toNat → ¬ cntP p n.toNat = i → pkP p (n + 1) i r d) := by
  refine ⟨fun e => ?_, fun e1 e2 => Or.inl ⟨n.toNat, by omega, e1, e2, by omega⟩, fun e1 e2 => ?_⟩
  · rcases hp with ⟨w, a1, a2, a3, a4⟩ | ⟨a1, a2⟩
    · exact Or.inl ⟨w, by omega, a2, a3, a4⟩
    · refine Or.inr ⟨fun w hw hp => ?_, a2⟩
      by_cases z : (w : Int) = n
      · rw [show w = n.toNat by omega] at hp; exact absurd hp e
      · exact a1 w (by omega) hp
  · rcases hp with ⟨w, a1, a2, a3, a4⟩ | ⟨a1, a2⟩
    · exact Or.inl ⟨w, by omega, a2, a3, a4⟩
    · refine Or.inr ⟨fun w hw hp => ?_, a2⟩
      by_cases z : (w : Int) = n
      · rw [show w = n.toNat by omega]; exact e2
      · exact a1 w (by omega) hp
-- rules that the line begins
def comR (g : HP) (w r : Nat) : Prop := mN g ≤ g 17 r ∧ begP g (mW g) (mN g) r ∧ asP g w (g 18 (4 * r + (mN g - 1).toNat))
def comP (g : HP) (v : Int) (w : Nat) : Prop := seenW g w ∧ ((v = 1 ∧ ∃ r : Nat, (r : Int) < g 15 3 ∧ g 16 r = w) ∨ ((v = 0 ∨ v = 6) ∧ ∃ r : Nat, (r : Int) < g 15 3 ∧ comR g w r))
set_option maxRecDepth 100000 in
set_option maxHeartbeats 4000000 in
theorem l_Rules_hasVerb (h : HP) (w : Int) (h40 : h 15 3 ≤ 40) : ∀ (d : Nat) (i : Int), h 15 3 - i < d → 0 ≤ i → i ≤ h 15 3 → (∀ r : Nat, (r : Int) < i → ¬ h 16 r = w) → Wn Z4 mRules_hasVerb SH0 2 [some (.inr (.inr 15)), some (.inl w), some (.inl i)] [] h (rtI (fun x h' => h' = h ∧ bP (∃ r : Nat, (r : Int) < h 15 3 ∧ h 16 r = w) x)) := by
  intro d
  induction d with
  | zero => intro i h1 h2 h3; omega
  | succ d ih =>
    intro i h1 h2 h3 h4
    refine go [2] 400 (k := ?_)
    simp (config := {maxSteps := 1000000}) only [↓pI_c, ↓pR_c, ↓pJ_c, ↓pV_c, ↓popN_0, ↓popN_s, ↓lI_0, ↓lR_0, ↓lJ_0, ↓lI_s, ↓lR_s, ↓lJ_s, ↓okSt_0, ↓okSt_I, ↓okSt_R, ↓okSt_N, ↓okSt_s, ↓rtI_s, ↓rtV_n, ↓brP_t, ↓brP_f, ↓sRules_hasVerb_0, ↓sRules_hasVerb_1, ↓sRules_hasVerb_2, ↓sRules_hasVerb_3, ↓sRules_hasVerb_4, ↓rf_15_3, ↓sRules_hasVerb_7, ↓sRules_hasVerb_10, ↓sRules_hasVerb_11, ↓rf_15_0, ↓sRules_hasVerb_14, ↓sRules_hasVerb_15, ↓sRules_hasVerb_16, ↓sRules_hasVerb_17, ↓sRules_hasVerb_20, ↓sRules_hasVerb_21, ↓sRules_hasVerb_22, ↓sRules_hasVerb_25, ↓sRules_hasVerb_28, ↓sRules_hasVerb_29, ↓ln_16, List.set_cons_zero, List.set_cons_succ, List.length_cons, List.length_nil, List.contains_cons, List.contains_nil, cat1, brP_d, true_and, and_true, not_false_eq_true, not_true_eq_false, if_true, if_false, Bool.or_false, Bool.false_or, Bool.or_true, Bool.true_or, Bool.false_eq_true, Bool.or_self, false_implies, true_implies, forall_const, and_self, implies_true, true_or, or_true, or_false, false_or, or_self, Classical.not_not, Int.reduceAdd, Int.reduceSub, Int.reduceMul, Int.reduceNeg, Int.reduceToNat, Int.reduceLT, Int.reduceLE, Int.reduceEq, Int.reduceNe, Int.reduceNatCast', Nat.reduceAdd, Nat.reduceSub, Nat.reduceLeDiff, Nat.reduceLT, Nat.reduceEqDiff, Nat.reduceBEq, reduceIte, nx_w, nx_c, up_n, up_s, up_f, ne_eq, Nat.reduceEqDiff, Option.some.injEq, Prod.mk.injEq, exists_eq_left', reduceCtorEq]
    refine ⟨fun c1 => Or.inr ⟨rfl, fun ⟨r, r1, r2⟩ => h4 r (by omega) r2⟩, fun c1 => ⟨by omega, fun c2 => ?_, fun c2 => Or.inl ⟨rfl, i.toNat, by omega, c2⟩⟩⟩
    rw [wr_id (x := i + 1) (by omega) (by omega)]
    refine ih (i + 1) (by omega) (by omega) (by omega) (fun r hr => ?_)
    by_cases e : (r : Int) = i
    · rw [show r = i.toNat by omega]; exact c2
    · exact h4 r (by omega)
set_option maxRecDepth 100000 in
set_option maxHeartbeats 4000000 in
theorem t_Rules_hasVerb (h : HP) (w : Int) (h0 : 0 ≤ h 15 3 ∧ h 15 3 ≤ 40) : trI mRules_hasVerb [.inr (.inr 15), .inl w] SH0 h (fun x h' => h' = h ∧ bP (∃ r : Nat, (r : Int) < h 15 3 ∧ h 16 r = w) x) := by
  refine startI [some (.inr (.inr 15)), some (.inl w), none] mRules_hasVerb_c (go [2] 400 (k := ?_))
  simp (config := {maxSteps := 1000000}) only [↓pI_c, ↓pR_c, ↓pJ_c, ↓pV_c, ↓popN_0, ↓popN_s, ↓lI_0, ↓lR_0, ↓lJ_0, ↓lI_s, ↓lR_s, ↓lJ_s, ↓okSt_0, ↓okSt_I, ↓okSt_R, ↓okSt_N, ↓okSt_s, ↓rtI_s, ↓rtV_n, ↓brP_t, ↓brP_f, ↓sRules_hasVerb_0, ↓sRules_hasVerb_1, ↓sRules_hasVerb_2, ↓sRules_hasVerb_3, ↓sRules_hasVerb_4, ↓rf_15_3, ↓sRules_hasVerb_7, ↓sRules_hasVerb_10, ↓sRules_hasVerb_11, ↓rf_15_0, ↓sRules_hasVerb_14, ↓sRules_hasVerb_15, ↓sRules_hasVerb_16, ↓sRules_hasVerb_17, ↓sRules_hasVerb_20, ↓sRules_hasVerb_21, ↓sRules_hasVerb_22, ↓sRules_hasVerb_25, ↓sRules_hasVerb_28, ↓sRules_hasVerb_29, ↓ln_16, List.set_cons_zero, List.set_cons_succ, List.length_cons, List.length_nil, List.contains_cons, List.contains_nil, cat1, brP_d, true_and, and_true, not_false_eq_true, not_true_eq_false, if_true, if_false, Bool.or_false, Bool.false_or, Bool.or_true, Bool.true_or, Bool.false_eq_true, Bool.or_self, false_implies, true_implies, forall_const, and_self, implies_true, true_or, or_true, or_false, false_or, or_self, Classical.not_not, Int.reduceAdd, Int.reduceSub, Int.reduceMul, Int.reduceNeg, Int.reduceToNat, Int.reduceLT, Int.reduceLE, Int.reduceEq, Int.reduceNe, Int.reduceNatCast', Nat.reduceAdd, Nat.reduceSub, Nat.reduceLeDiff, Nat.reduceLT, Nat.reduceEqDiff, Nat.reduceBEq, reduceIte, nx_w, nx_c, up_n, up_s, up_f, ne_eq, Nat.reduceEqDiff, Option.some.injEq, Prod.mk.injEq, exists_eq_left', reduceCtorEq]
  exact l_Rules_hasVerb h w h0.2 ((h 15 3).toNat + 1) 0 (by omega) (by omega) h0.1 (fun r hr => by omega)
theorem begP_congr {h h' : HP} {wf : Nat → Int} {n : Int} {r : Nat} (e10 : h' 10 = h 10) (e11 : h' 11 = h 11) (e12 : h' 12 = h 12) (e16 : h' 16 = h 16) (e17 : h' 17 = h 17) (e18 : h' 18 = h 18) : begP h' wf n r ↔ begP h wf n r := by
  unfold begP asP isK
  rw [e10, e11, e12, e16, e17, e18]
theorem beg_rd {g h : HP} (hk : KF g h) (hr : rdG g h) (hp : 0 < mN g) {r : Nat} : begP h (h 26) (h 24 6) r ↔ begP g (mW g) (mN g) r := by
  rw [begP_congr (hk 10 (by decide)) (hk 11 (by decide)) (hk 12 (by decide)) (hk 16 (by decide)) (hk 17 (by decide)) (hk 18 (by decide)), hr.1]
  exact begP_wf hp (fun i hi => (hr.2.1 i hi).2)
set_option maxRecDepth 100000 in
set_option maxHeartbeats 4000000 in
theorem l_Read_couldComeNext (g h : HP) (hC : CI g) (hk : KF g h) (hr : rdG g h) (ha : allK g) (w : Nat) (Q : Prop) (hQ : Q ↔ ∃ r : Nat, (r : Int) < g 15 3 ∧ comR g w r) : ∀ (d : Nat) (i : Int), g 15 3 - i < d → 0 ≤ i → i ≤ g 15 3 → (∀ r : Nat, (r : Int) < i → ¬ comR g w r) → Wn Z4 mRead_couldComeNext SH0 70 [some (.inr (.inr 24)), some (.inl w), some (.inl i)] [] h (rtI (fun x h' => h' = h ∧ bP Q x)) := by
  have hR := hC.2.2.1
  have h40 := hR.2.1
  have hn := mN_in hC.2.2.2.2
  have hpos := ha.1
  have e6 := hr.1
  have e15 : h 15 = g 15 := hk 15 (by decide)
  have e17 : h 17 = g 17 := hk 17 (by decide)
  have e18 : h 18 = g 18 := hk 18 (by decide)
  have hCh := hC.kf hk
  intro d
  induction d with
  | zero => intro i h1 h2 h3; omega
  | succ d ih =>
    intro i h1 h2 h3 h4
    have nx : ¬ g 15 3 ≤ i → ¬ comR g w i.toNat → Wn Z4 mRead_couldComeNext SH0 70 [some (.inr (.inr 24)), some (.inl w), some (.inl (i + 1))] [] h (rtI (fun x h' => h' = h ∧ bP Q x)) := fun c1 z => ih (i + 1) (by omega) (by omega) (by omega) (fun r hr => by
      by_cases e : (r : Int) = i
      · rw [show r = i.toNat by omega]; exact z
      · exact h4 r (by omega))
    refine go [70] 400 (k := ?_)
    simp (config := {maxSteps := 1000000}) only [↓pI_c, ↓pR_c, ↓pJ_c, ↓pV_c, ↓popN_0, ↓popN_s, ↓lI_0, ↓lR_0, ↓lJ_0, ↓lI_s, ↓lR_s, ↓lJ_s, ↓okSt_0, ↓okSt_I, ↓okSt_R, ↓okSt_N, ↓okSt_s, ↓rtI_s, ↓rtV_n, ↓brP_t, ↓brP_f, ↓sRead_couldComeNext_0, ↓sRead_couldComeNext_1, ↓rf_24_2, ↓sRead_couldComeNext_4, ↓sRead_couldComeNext_5, ↓sRead_couldComeNext_8, ↓sRead_couldComeNext_11, ↓sRead_couldComeNext_12, ↓sRead_couldComeNext_13, ↓sRead_couldComeNext_14, ↓rf_24_7, ↓sRead_couldComeNext_17, ↓sRead_couldComeNext_18, ↓sRead_couldComeNext_21, ↓sRead_couldComeNext_22, ↓sRead_couldComeNext_25, ↓rf_10_0, ↓sRead_couldComeNext_28, ↓sRead_couldComeNext_29, ↓sRead_couldComeNext_30, ↓sRead_couldComeNext_33, ↓sRead_couldComeNext_34, ↓rf_24_3, ↓sRead_couldComeNext_37, ↓sRead_couldComeNext_38, ↓sRead_couldComeNext_41, ↓sRead_couldComeNext_44, ↓sRead_couldComeNext_45, ↓sRead_couldComeNext_48, ↓sRead_couldComeNext_49, ↓sRead_couldComeNext_50, ↓sRead_couldComeNext_51, ↓sRead_couldComeNext_54, ↓sRead_couldComeNext_57, ↓sRead_couldComeNext_58, ↓sRead_couldComeNext_61, ↓sRead_couldComeNext_63, ↓sRead_couldComeNext_66, ↓sRead_couldComeNext_67, ↓sRead_couldComeNext_68, ↓sRead_couldComeNext_69, ↓sRead_couldComeNext_70, ↓sRead_couldComeNext_71, ↓sRead_couldComeNext_72, ↓sRead_couldComeNext_75, ↓rf_15_3, ↓sRead_couldComeNext_78, ↓sRead_couldComeNext_81, ↓sRead_couldComeNext_82, ↓sRead_couldComeNext_85, ↓rf_15_1, ↓sRead_couldComeNext_88, ↓sRead_couldComeNext_89, ↓sRead_couldComeNext_90, ↓sRead_couldComeNext_91, ↓rf_24_6, ↓sRead_couldComeNext_94, ↓sRead_couldComeNext_97, ↓sRead_couldComeNext_98, ↓sRead_couldComeNext_99, ↓sRead_couldComeNext_102, ↓sRead_couldComeNext_105, ↓sRead_couldComeNext_106, ↓sRead_couldComeNext_109, ↓sRead_couldComeNext_110, ↓sRead_couldComeNext_111, ↓sRead_couldComeNext_114, ↓sRead_couldComeNext_115, ↓sRead_couldComeNext_116, ↓sRead_couldComeNext_119, ↓sRead_couldComeNext_120, ↓sRead_couldComeNext_121, ↓sRead_couldComeNext_124, ↓sRead_couldComeNext_127, ↓sRead_couldComeNext_130, ↓sRead_couldComeNext_131, ↓sRead_couldComeNext_132, ↓sRead_couldComeNext_135, ↓sRead_couldComeNext_138, ↓sRead_couldComeNext_139, ↓ln_11, ↓ln_17, List.set_cons_zero, List.set_cons_succ, List.length_cons, List.length_nil, List.contains_cons, List.contains_nil, cat1, brP_d, true_and, and_true, not_false_eq_true, not_true_eq_false, if_true, if_false, Bool.or_false, Bool.false_or, Bool.or_true, Bool.true_or, Bool.false_eq_true, Bool.or_self, false_implies, true_implies, forall_const, and_self, implies_true, true_or, or_true, or_false, false_or, or_self, Classical.not_not, Int.reduceAdd, Int.reduceSub, Int.reduceMul, Int.reduceNeg, Int.reduceToNat, Int.reduceLT, Int.reduceLE, Int.reduceEq, Int.reduceNe, Int.reduceNatCast', Nat.reduceAdd, Nat.reduceSub, Nat.reduceLeDiff, Nat.reduceLT, Nat.reduceEqDiff, Nat.reduceBEq, reduceIte, nx_w, nx_c, up_n, up_s, up_f, ne_eq, Nat.reduceEqDiff, Option.some.injEq, Prod.mk.injEq, exists_eq_left', reduceCtorEq, ob_10, ob_15, ob_24, e15, e6, e17]
    rw [wr_id (x := i + 1) (by omega) (by omega)]
    refine ⟨fun c1 => Or.inr ⟨rfl, fun z => ?_⟩, fun c1 => ⟨by omega, fun c2 => nx c1 (fun z => by have := z.1; omega), fun c2 => ?_⟩⟩
    · obtain ⟨r, r1, r2⟩ := hQ.mp z
      exact h4 r (by omega) r2
    · have l4 := hR.2.2.2 i.toNat (by omega)
      have ib := t_Read_beginsAs h i hCh.1 (by rw [e15]; omega) hCh.2.2.1 (by rw [e6]; omega)
      rw [beg_rd hk hr hpos] at ib
      refine use_b ib (fun hc => ?_) (fun hc => ?_)
      · simp only [one_ne, not_false_eq_true, true_implies, false_implies, true_and, and_true]
        rw [e6, wr_id (x := mN g - 1) (by omega) (by omega)]
        refine use_p (t_Rules_tokenAt h i (mN g - 1) (by omega) (by omega)) ?_
        rw [e18]
        have ia := t_Words_isAs h w (g 18 (4 * i.toNat + (mN g - 1).toNat)) ⟨hCh.1.1, hCh.1.2.1⟩
        rw [asP_congr (hk 10 (by decide)) (hk 11 (by decide)) (hk 12 (by decide))] at ia
        refine use_b ia (fun hd => ?_) (fun hd => ?_)
        · simp only [one_ne, not_false_eq_true, true_implies, false_implies, true_and, and_true]
          exact Or.inl ⟨rfl, hQ.mpr ⟨i.toNat, by omega, by omega, hc, hd⟩⟩
        · simp only [not_true_eq_false, true_implies, false_implies, true_and, and_true]
          exact nx c1 (fun z => hd z.2.2)
      · simp only [not_true_eq_false, true_implies, false_implies, true_and, and_true]
        exact nx c1 (fun z => hc z.2.1)
set_option maxRecDepth 100000 in
set_option maxHeartbeats 4000000 in
theorem t_Read_couldComeNext (g h : HP) (hC : CI g) (hk : KF g h) (hr : rdG g h) (w : Nat) (hw : (w : Int) < g 10 4) : trI mRead_couldComeNext [.inr (.inr 24), .inl w] SH0 h (fun x h' => h' = h ∧ bP (comP g (h 24 7) w) x) := by
  have hW := hC.1
  have h60 := hW.2.1
  have hR := hC.2.2.1
  have hCh := hC.kf hk
  have ew : ((w : Int)).toNat = w := by omega
  have e11 : h 11 = g 11 := hk 11 (by decide)
  have hs := t_Words_isSeen h w (by omega)
  have es : seenW h ((w : Int)).toNat ↔ seenW g w := by
    unfold seenW
    rw [hk 11 (by decide), hk 13 (by decide), ew]
  rw [es] at hs
  have hv' := t_Rules_hasVerb h w ⟨hCh.2.2.1.1, hCh.2.2.1.2.1⟩
  rw [hk 15 (by decide), hk 16 (by decide)] at hv'
  refine startI [some (.inr (.inr 24)), some (.inl w), none] mRead_couldComeNext_c (go [70] 400 (k := ?_))
  simp (config := {maxSteps := 1000000}) only [↓pI_c, ↓pR_c, ↓pJ_c, ↓pV_c, ↓popN_0, ↓popN_s, ↓lI_0, ↓lR_0, ↓lJ_0, ↓lI_s, ↓lR_s, ↓lJ_s, ↓okSt_0, ↓okSt_I, ↓okSt_R, ↓okSt_N, ↓okSt_s, ↓rtI_s, ↓rtV_n, ↓brP_t, ↓brP_f, ↓sRead_couldComeNext_0, ↓sRead_couldComeNext_1, ↓rf_24_2, ↓sRead_couldComeNext_4, ↓sRead_couldComeNext_5, ↓sRead_couldComeNext_8, ↓sRead_couldComeNext_11, ↓sRead_couldComeNext_12, ↓sRead_couldComeNext_13, ↓sRead_couldComeNext_14, ↓rf_24_7, ↓sRead_couldComeNext_17, ↓sRead_couldComeNext_18, ↓sRead_couldComeNext_21, ↓sRead_couldComeNext_22, ↓sRead_couldComeNext_25, ↓rf_10_0, ↓sRead_couldComeNext_28, ↓sRead_couldComeNext_29, ↓sRead_couldComeNext_30, ↓sRead_couldComeNext_33, ↓sRead_couldComeNext_34, ↓rf_24_3, ↓sRead_couldComeNext_37, ↓sRead_couldComeNext_38, ↓sRead_couldComeNext_41, ↓sRead_couldComeNext_44, ↓sRead_couldComeNext_45, ↓sRead_couldComeNext_48, ↓sRead_couldComeNext_49, ↓sRead_couldComeNext_50, ↓sRead_couldComeNext_51, ↓sRead_couldComeNext_54, ↓sRead_couldComeNext_57, ↓sRead_couldComeNext_58, ↓sRead_couldComeNext_61, ↓sRead_couldComeNext_63, ↓sRead_couldComeNext_66, ↓sRead_couldComeNext_67, ↓sRead_couldComeNext_68, ↓sRead_couldComeNext_69, ↓sRead_couldComeNext_70, ↓sRead_couldComeNext_71, ↓sRead_couldComeNext_72, ↓sRead_couldComeNext_75, ↓rf_15_3, ↓sRead_couldComeNext_78, ↓sRead_couldComeNext_81, ↓sRead_couldComeNext_82, ↓sRead_couldComeNext_85, ↓rf_15_1, ↓sRead_couldComeNext_88, ↓sRead_couldComeNext_89, ↓sRead_couldComeNext_90, ↓sRead_couldComeNext_91, ↓rf_24_6, ↓sRead_couldComeNext_94, ↓sRead_couldComeNext_97, ↓sRead_couldComeNext_98, ↓sRead_couldComeNext_99, ↓sRead_couldComeNext_102, ↓sRead_couldComeNext_105, ↓sRead_couldComeNext_106, ↓sRead_couldComeNext_109, ↓sRead_couldComeNext_110, ↓sRead_couldComeNext_111, ↓sRead_couldComeNext_114, ↓sRead_couldComeNext_115, ↓sRead_couldComeNext_116, ↓sRead_couldComeNext_119, ↓sRead_couldComeNext_120, ↓sRead_couldComeNext_121, ↓sRead_couldComeNext_124, ↓sRead_couldComeNext_127, ↓sRead_couldComeNext_130, ↓sRead_couldComeNext_131, ↓sRead_couldComeNext_132, ↓sRead_couldComeNext_135, ↓sRead_couldComeNext_138, ↓sRead_couldComeNext_139, ↓ln_11, ↓ln_17, List.set_cons_zero, List.set_cons_succ, List.length_cons, List.length_nil, List.contains_cons, List.contains_nil, cat1, brP_d, true_and, and_true, not_false_eq_true, not_true_eq_false, if_true, if_false, Bool.or_false, Bool.false_or, Bool.or_true, Bool.true_or, Bool.false_eq_true, Bool.or_self, false_implies, true_implies, forall_const, and_self, implies_true, true_or, or_true, or_false, false_or, or_self, Classical.not_not, Int.reduceAdd, Int.reduceSub, Int.reduceMul, Int.reduceNeg, Int.reduceToNat, Int.reduceLT, Int.reduceLE, Int.reduceEq, Int.reduceNe, Int.reduceNatCast', Nat.reduceAdd, Nat.reduceSub, Nat.reduceLeDiff, Nat.reduceLT, Nat.reduceEqDiff, Nat.reduceBEq, reduceIte, nx_w, nx_c, up_n, up_s, up_f, ne_eq, Nat.reduceEqDiff, Option.some.injEq, Prod.mk.injEq, exists_eq_left', reduceCtorEq, ob_10, ob_15, ob_24, e11, ew]
  refine use_b hs (fun c1 => ?_) (fun c1 => ?_)
  · simp only [one_ne, not_false_eq_true, true_implies, false_implies, true_and, and_true]
    have lp : (h 24 7 = 0 ∨ h 24 7 = 6) → Wn Z4 mRead_couldComeNext SH0 70 [some (.inr (.inr 24)), some (.inl w), some (.inl 0)] [] h (rtI (fun x h' => h' = h ∧ bP (comP g (h 24 7) w) x)) := by
      intro hv
      have ha := (verd_06 hC.2.1 hr.2.2 hv).1
      refine l_Read_couldComeNext g h hC hk hr ha w _ ⟨?_, fun z => ⟨c1, Or.inr ⟨hv, z⟩⟩⟩ ((g 15 3).toNat + 1) 0 (by have := hR.1; omega) (by omega) hR.1 (fun r hr => by omega)
      rintro ⟨_, ⟨z, _⟩ | ⟨_, z⟩⟩
      · omega
      · exact z
    refine ⟨fun c2 => ⟨fun c3 => lp (Or.inl c3), fun c3 => ⟨fun c4 => lp (Or.inr c4), fun c4 => Or.inr ⟨rfl, ?_⟩⟩⟩, fun c2 => ⟨by omega, fun c3 => Or.inr ⟨rfl, ?_⟩, fun c3 => ?_⟩⟩
    · rintro ⟨_, ⟨z, _⟩ | ⟨z, _⟩⟩
      · exact c2 z
      · omega
    · rintro ⟨_, ⟨_, r, r1, r2⟩ | ⟨z, _⟩⟩
      · have := (hR.2.2.1 r r1).2.2.1
        rw [r2, ew] at this
        exact c3 (by rw [e11]; exact this)
      · omega
    · refine use_b hv' (fun hc => ?_) (fun hc => ?_)
      · simp only [one_ne, not_false_eq_true, true_implies, false_implies, true_and, and_true]
        exact Or.inl ⟨rfl, c1, Or.inl ⟨c2, hc⟩⟩
      · simp only [not_true_eq_false, true_implies, false_implies, true_and, and_true]
        refine Or.inr ⟨rfl, ?_⟩
        rintro ⟨_, ⟨_, z⟩ | ⟨z, _⟩⟩
        · exact hc z
        · omega
  · simp only [not_true_eq_false, true_implies, false_implies, true_and, and_true]
    exact Or.inr ⟨rfl, fun z => c1 z.1⟩
set_option maxRecDepth 100000 in
set_option maxHeartbeats 4000000 in
theorem l_Help_countHints (g h : HP) (hC : CI g) (hk : KF g h) (hr : rdG g h) : ∀ (d w : Nat), g 10 4 - w < d → (w : Int) ≤ g 10 4 → Wn Z4 mHelp_countHints SH0 4 [some (.inr (.inr 0)), some (.inl (cntP (comP g (h 24 7)) w)), some (.inl w)] [] h (rtI (fun x h' => h' = h ∧ x = cntP (comP g (h 24 7)) (g 10 4).toNat)) := by
  have h60 := hC.1.2.1
  have e10 : h 10 = g 10 := hk 10 (by decide)
  intro d
  induction d with
  | zero => intro w h1 h2; omega
  | succ d ih =>
    intro w h1 h2
    have hin := cntP_in (comP g (h 24 7)) w
    refine go [4] 400 (k := ?_)
    simp (config := {maxSteps := 1000000}) only [↓pI_c, ↓pR_c, ↓pJ_c, ↓pV_c, ↓popN_0, ↓popN_s, ↓lI_0, ↓lR_0, ↓lJ_0, ↓lI_s, ↓lR_s, ↓lJ_s, ↓okSt_0, ↓okSt_I, ↓okSt_R, ↓okSt_N, ↓okSt_s, ↓rtI_s, ↓rtV_n, ↓brP_t, ↓brP_f, ↓sHelp_countHints_0, ↓sHelp_countHints_1, ↓sHelp_countHints_2, ↓sHelp_countHints_3, ↓sHelp_countHints_4, ↓sHelp_countHints_5, ↓sHelp_countHints_6, ↓rf_0_5, ↓sHelp_countHints_9, ↓rf_10_4, ↓sHelp_countHints_12, ↓sHelp_countHints_15, ↓sHelp_countHints_16, ↓rf_0_8, ↓sHelp_countHints_19, ↓sHelp_countHints_20, ↓sHelp_countHints_23, ↓sHelp_countHints_26, ↓sHelp_countHints_29, ↓sHelp_countHints_32, ↓sHelp_countHints_35, ↓sHelp_countHints_36, List.set_cons_zero, List.set_cons_succ, List.length_cons, List.length_nil, List.contains_cons, List.contains_nil, cat1, brP_d, true_and, and_true, not_false_eq_true, not_true_eq_false, if_true, if_false, Bool.or_false, Bool.false_or, Bool.or_true, Bool.true_or, Bool.false_eq_true, Bool.or_self, false_implies, true_implies, forall_const, and_self, implies_true, true_or, or_true, or_false, false_or, or_self, Classical.not_not, Int.reduceAdd, Int.reduceSub, Int.reduceMul, Int.reduceNeg, Int.reduceToNat, Int.reduceLT, Int.reduceLE, Int.reduceEq, Int.reduceNe, Int.reduceNatCast', Nat.reduceAdd, Nat.reduceSub, Nat.reduceLeDiff, Nat.reduceLT, Nat.reduceEqDiff, Nat.reduceBEq, reduceIte, nx_w, nx_c, up_n, up_s, up_f, ne_eq, Nat.reduceEqDiff, Option.some.injEq, Prod.mk.injEq, exists_eq_left', reduceCtorEq, ob_24, e10]
    rw [wr_id (x := (w : Int) + 1) (by omega) (by omega), wr_id (x := cntP (comP g (h 24 7)) w + 1) (by omega) (by omega)]
    refine ⟨fun c1 => ?_, fun c1 => ?_⟩
    · have e : (g 10 4).toNat = w := by omega
      rw [e]
    · have hi := ih (w + 1) (by push_cast; omega) (by push_cast; omega)
      push_cast at hi
      refine use_b (t_Read_couldComeNext g h hC hk hr w (by omega)) (fun hc => ?_) (fun hc => ?_)
      · simp only [one_ne, not_false_eq_true, true_implies, false_implies, true_and, and_true]
        rw [cntP_y hc] at hi
        exact hi
      · simp only [not_true_eq_false, true_implies, false_implies, true_and, and_true]
        rw [cntP_n hc] at hi
        exact hi
set_option maxRecDepth 100000 in
set_option maxHeartbeats 4000000 in
theorem t_Help_countHints (g h : HP) (hC : CI g) (hk : KF g h) (hr : rdG g h) : trI mHelp_countHints [.inr (.inr 0)] SH0 h (fun x h' => h' = h ∧ x = cntP (comP g (h 24 7)) (g 10 4).toNat) := by
  have h0 := hC.1.1
  refine startI [some (.inr (.inr 0)), none, none] mHelp_countHints_c (go [4] 400 (k := ?_))
  simp (config := {maxSteps := 1000000}) only [↓pI_c, ↓pR_c, ↓pJ_c, ↓pV_c, ↓popN_0, ↓popN_s, ↓lI_0, ↓lR_0, ↓lJ_0, ↓lI_s, ↓lR_s, ↓lJ_s, ↓okSt_0, ↓okSt_I, ↓okSt_R, ↓okSt_N, ↓okSt_s, ↓rtI_s, ↓rtV_n, ↓brP_t, ↓brP_f, ↓sHelp_countHints_0, ↓sHelp_countHints_1, ↓sHelp_countHints_2, ↓sHelp_countHints_3, ↓sHelp_countHints_4, ↓sHelp_countHints_5, ↓sHelp_countHints_6, ↓rf_0_5, ↓sHelp_countHints_9, ↓rf_10_4, ↓sHelp_countHints_12, ↓sHelp_countHints_15, ↓sHelp_countHints_16, ↓rf_0_8, ↓sHelp_countHints_19, ↓sHelp_countHints_20, ↓sHelp_countHints_23, ↓sHelp_countHints_26, ↓sHelp_countHints_29, ↓sHelp_countHints_32, ↓sHelp_countHints_35, ↓sHelp_countHints_36, List.set_cons_zero, List.set_cons_succ, List.length_cons, List.length_nil, List.contains_cons, List.contains_nil, cat1, brP_d, true_and, and_true, not_false_eq_true, not_true_eq_false, if_true, if_false, Bool.or_false, Bool.false_or, Bool.or_true, Bool.true_or, Bool.false_eq_true, Bool.or_self, false_implies, true_implies, forall_const, and_self, implies_true, true_or, or_true, or_false, false_or, or_self, Classical.not_not, Int.reduceAdd, Int.reduceSub, Int.reduceMul, Int.reduceNeg, Int.reduceToNat, Int.reduceLT, Int.reduceLE, Int.reduceEq, Int.reduceNe, Int.reduceNatCast', Nat.reduceAdd, Nat.reduceSub, Nat.reduceLeDiff, Nat.reduceLT, Nat.reduceEqDiff, Nat.reduceBEq, reduceIte, nx_w, nx_c, up_n, up_s, up_f, ne_eq, Nat.reduceEqDiff, Option.some.injEq, Prod.mk.injEq, exists_eq_left', reduceCtorEq, ob_24]
  exact l_Help_countHints g h hC hk hr ((g 10 4).toNat + 1) 0 (by push_cast; omega) (by push_cast; omega)
def sHint (i : Int) (g : HP) (r : Int) : Prop := ∃ v c p x, verdR g (mN g) (fun i => mT g i) (mW g) v c p x ∧ pkP (comP g v) (g 10 4) i r (-2)
theorem sHint_uni {g : HP} {i r r' : Int} (h : sHint i g r) (h' : sHint i g r') : r = r' := by
  obtain ⟨v, c, p, x, a1, a2⟩ := h
  obtain ⟨v', c', p', x', b1, b2⟩ := h'
  have e := (verdR_uni a1 b1).1
  subst e
  exact pkP_uni a2 b2
set_option maxRecDepth 100000 in
set_option maxHeartbeats 4000000 in
theorem l_Help_hint (g h : HP) (hC : CI g) (hk : KF g h) (hr : rdG g h) (i : Int) : ∀ (d w : Nat), g 10 4 - w < d → (w : Int) ≤ g 10 4 → (∀ u : Nat, u < w → comP g (h 24 7) u → ¬ cntP (comP g (h 24 7)) u = i) → Wn Z4 mHelp_hint SH0 11 [some (.inr (.inr 0)), some (.inl i), some (.inl (cntP (comP g (h 24 7)) w)), some (.inl w)] [] h (rtI (roC (sHint i) g)) := by
  have h60 := hC.1.2.1
  have e10 : h 10 = g 10 := hk 10 (by decide)
  intro d
  induction d with
  | zero => intro w h1 h2; omega
  | succ d ih =>
    intro w h1 h2 h3
    have hin := cntP_in (comP g (h 24 7)) w
    refine go [11] 400 (k := ?_)
    simp (config := {maxSteps := 1000000}) only [↓pI_c, ↓pR_c, ↓pJ_c, ↓pV_c, ↓popN_0, ↓popN_s, ↓lI_0, ↓lR_0, ↓lJ_0, ↓lI_s, ↓lR_s, ↓lJ_s, ↓okSt_0, ↓okSt_I, ↓okSt_R, ↓okSt_N, ↓okSt_s, ↓rtI_s, ↓rtV_n, ↓brP_t, ↓brP_f, ↓sHelp_hint_0, ↓sHelp_hint_1, ↓rf_0_8, ↓sHelp_hint_4, ↓sHelp_hint_7, ↓sHelp_hint_8, ↓sHelp_hint_9, ↓sHelp_hint_10, ↓sHelp_hint_11, ↓sHelp_hint_12, ↓sHelp_hint_13, ↓rf_0_5, ↓sHelp_hint_16, ↓rf_10_4, ↓sHelp_hint_19, ↓sHelp_hint_22, ↓sHelp_hint_23, ↓sHelp_hint_26, ↓sHelp_hint_27, ↓sHelp_hint_30, ↓sHelp_hint_33, ↓sHelp_hint_34, ↓sHelp_hint_35, ↓sHelp_hint_38, ↓sHelp_hint_39, ↓sHelp_hint_40, ↓sHelp_hint_43, ↓sHelp_hint_46, ↓sHelp_hint_49, ↓sHelp_hint_51, List.set_cons_zero, List.set_cons_succ, List.length_cons, List.length_nil, List.contains_cons, List.contains_nil, cat1, brP_d, true_and, and_true, not_false_eq_true, not_true_eq_false, if_true, if_false, Bool.or_false, Bool.false_or, Bool.or_true, Bool.true_or, Bool.false_eq_true, Bool.or_self, false_implies, true_implies, forall_const, and_self, implies_true, true_or, or_true, or_false, false_or, or_self, Classical.not_not, Int.reduceAdd, Int.reduceSub, Int.reduceMul, Int.reduceNeg, Int.reduceToNat, Int.reduceLT, Int.reduceLE, Int.reduceEq, Int.reduceNe, Int.reduceNatCast', Nat.reduceAdd, Nat.reduceSub, Nat.reduceLeDiff, Nat.reduceLT, Nat.reduceEqDiff, Nat.reduceBEq, reduceIte, nx_w, nx_c, up_n, up_s, up_f, ne_eq, Nat.reduceEqDiff, Option.some.injEq, Prod.mk.injEq, exists_eq_left', reduceCtorEq, ob_24, e10]
    rw [wr_id (x := (w : Int) + 1) (by omega) (by omega), wr_id (x := cntP (comP g (h 24 7)) w + 1) (by omega) (by omega)]
    refine ⟨fun c1 => ⟨hk, _, _, _, _, hr.2.2, Or.inr ⟨fun u hu => h3 u (by omega), rfl⟩⟩, fun c1 => ?_⟩
    have hi := ih (w + 1) (by push_cast; omega) (by push_cast; omega)
    push_cast at hi
    refine use_b (t_Read_couldComeNext g h hC hk hr w (by omega)) (fun hc => ?_) (fun hc => ?_)
    · simp only [one_ne, not_false_eq_true, true_implies, false_implies, true_and, and_true]
      rw [cntP_y hc] at hi
      refine ⟨fun c2 => hi (fun u hu hp => ?_), fun c2 => ⟨hk, _, _, _, _, hr.2.2, Or.inl ⟨w, by omega, hc, c2, rfl⟩⟩⟩
      by_cases e : u = w
      · rw [e]; exact c2
      · exact h3 u (by omega) hp
    · simp only [not_true_eq_false, true_implies, false_implies, true_and, and_true]
      rw [cntP_n hc] at hi
      refine hi (fun u hu hp => ?_)
      by_cases e : u = w
      · rw [e] at hp; exact absurd hp hc
      · exact h3 u (by omega) hp
set_option maxRecDepth 100000 in
set_option maxHeartbeats 4000000 in
theorem t_Help_hint (h : HP) (hC : CI h) (i : Int) : trI mHelp_hint [.inr (.inr 0), .inl i] SH0 h (roC (sHint i) h) := by
  have h0 := hC.1.1
  refine startI [some (.inr (.inr 0)), some (.inl i), none, none] mHelp_hint_c (go [11] 400 (k := ?_))
  simp (config := {maxSteps := 1000000}) only [↓pI_c, ↓pR_c, ↓pJ_c, ↓pV_c, ↓popN_0, ↓popN_s, ↓lI_0, ↓lR_0, ↓lJ_0, ↓lI_s, ↓lR_s, ↓lJ_s, ↓okSt_0, ↓okSt_I, ↓okSt_R, ↓okSt_N, ↓okSt_s, ↓rtI_s, ↓rtV_n, ↓brP_t, ↓brP_f, ↓sHelp_hint_0, ↓sHelp_hint_1, ↓rf_0_8, ↓sHelp_hint_4, ↓sHelp_hint_7, ↓sHelp_hint_8, ↓sHelp_hint_9, ↓sHelp_hint_10, ↓sHelp_hint_11, ↓sHelp_hint_12, ↓sHelp_hint_13, ↓rf_0_5, ↓sHelp_hint_16, ↓rf_10_4, ↓sHelp_hint_19, ↓sHelp_hint_22, ↓sHelp_hint_23, ↓sHelp_hint_26, ↓sHelp_hint_27, ↓sHelp_hint_30, ↓sHelp_hint_33, ↓sHelp_hint_34, ↓sHelp_hint_35, ↓sHelp_hint_38, ↓sHelp_hint_39, ↓sHelp_hint_40, ↓sHelp_hint_43, ↓sHelp_hint_46, ↓sHelp_hint_49, ↓sHelp_hint_51, List.set_cons_zero, List.set_cons_succ, List.length_cons, List.length_nil, List.contains_cons, List.contains_nil, cat1, brP_d, true_and, and_true, not_false_eq_true, not_true_eq_false, if_true, if_false, Bool.or_false, Bool.false_or, Bool.or_true, Bool.true_or, Bool.false_eq_true, Bool.or_self, false_implies, true_implies, forall_const, and_self, implies_true, true_or, or_true, or_false, false_or, or_self, Classical.not_not, Int.reduceAdd, Int.reduceSub, Int.reduceMul, Int.reduceNeg, Int.reduceToNat, Int.reduceLT, Int.reduceLE, Int.reduceEq, Int.reduceNe, Int.reduceNatCast', Nat.reduceAdd, Nat.reduceSub, Nat.reduceLeDiff, Nat.reduceLT, Nat.reduceEqDiff, Nat.reduceBEq, reduceIte, nx_w, nx_c, up_n, up_s, up_f, ne_eq, Nat.reduceEqDiff, Option.some.injEq, Prod.mk.injEq, exists_eq_left', reduceCtorEq, ob_24]
  refine trV_use (t_Read_update h hC) ?_
  intro h1 q1
  exact l_Help_hint h h1 hC (KF.rd q1.1) (rd_upd q1) i ((h 10 4).toNat + 1) 0 (by push_cast; omega) (by push_cast; omega) (fun u hu => absurd hu (Nat.not_lt_zero u))
-- the reference
def mcP (g : HP) (w r : Nat) : Prop := (mN g = 0 ∧ g 16 r = w) ∨ (0 < mN g ∧ comR g w r)
set_option maxRecDepth 100000 in
set_option maxHeartbeats 4000000 in
theorem l_Model_mayCome (g h : HP) (hC : CI g) (hm : CM g h) (hj : jdG g h) (ha : allK g) (w r : Nat) (hw : (w : Int) < g 10 4) (hr : (r : Int) < g 15 3) : ∀ (d : Nat) (i s : Int), mN g - i < d → 0 ≤ i → i ≤ mN g - 1 → ((s = 1 ∧ g 16 r = mW g 0 ∧ mN g ≤ g 17 r ∧ asP g w (g 18 (4 * r + (mN g - 1).toNat)) ∧ ∀ t : Nat, (t : Int) < i → asP g (mW g (t + 1)) (g 18 (4 * r + t))) ∨ (s = 0 ∧ ¬ mcP g w r)) → Wn Z4 mModel_mayCome SH0 83 [some (.inr (.inr 43)), some (.inl w), some (.inl r), some (.inl (mN g - 1)), some (.inl s), some (.inl i)] [] h (rtI (fun x h' => h' = h ∧ bP (mcP g w r) x)) := by
  have hR := hC.2.2.1
  have h40 := hR.2.1
  have hn := mN_in hC.2.2.2.2
  have hpos := ha.1
  have l4 := hR.2.2.2 r (by omega)
  have e26 := hj.1
  intro d
  induction d with
  | zero => intro i s h1 h2 h3; omega
  | succ d ih =>
    intro i s h1 h2 h3 h4
    rcases h4 with ⟨rfl, z1, z2, z3, z4⟩ | ⟨rfl, z⟩
    · refine go [83] 400 (k := ?_)
      simp (config := {maxSteps := 1000000}) only [↓pI_c, ↓pR_c, ↓pJ_c, ↓pV_c, ↓popN_0, ↓popN_s, ↓lI_0, ↓lR_0, ↓lJ_0, ↓lI_s, ↓lR_s, ↓lJ_s, ↓okSt_0, ↓okSt_I, ↓okSt_R, ↓okSt_N, ↓okSt_s, ↓rtI_s, ↓rtV_n, ↓brP_t, ↓brP_f, ↓sModel_mayCome_0, ↓sModel_mayCome_1, ↓rf_43_26, ↓sModel_mayCome_4, ↓sModel_mayCome_7, ↓sModel_mayCome_8, ↓rf_43_11, ↓sModel_mayCome_11, ↓sModel_mayCome_12, ↓sModel_mayCome_13, ↓sModel_mayCome_14, ↓sModel_mayCome_17, ↓sModel_mayCome_18, ↓sModel_mayCome_21, ↓sModel_mayCome_22, ↓sModel_mayCome_23, ↓sModel_mayCome_24, ↓sModel_mayCome_27, ↓sModel_mayCome_28, ↓sModel_mayCome_29, ↓sModel_mayCome_30, ↓sModel_mayCome_31, ↓sModel_mayCome_34, ↓sModel_mayCome_35, ↓sModel_mayCome_36, ↓sModel_mayCome_37, ↓rf_43_28, ↓sModel_mayCome_40, ↓sModel_mayCome_41, ↓sModel_mayCome_42, ↓sModel_mayCome_45, ↓sModel_mayCome_46, ↓rf_43_13, ↓sModel_mayCome_49, ↓sModel_mayCome_50, ↓sModel_mayCome_51, ↓sModel_mayCome_52, ↓sModel_mayCome_55, ↓sModel_mayCome_56, ↓sModel_mayCome_57, ↓sModel_mayCome_58, ↓rf_43_12, ↓sModel_mayCome_61, ↓sModel_mayCome_62, ↓sModel_mayCome_63, ↓sModel_mayCome_64, ↓sModel_mayCome_65, ↓sModel_mayCome_66, ↓sModel_mayCome_67, ↓sModel_mayCome_70, ↓sModel_mayCome_73, ↓sModel_mayCome_74, ↓sModel_mayCome_77, ↓sModel_mayCome_78, ↓sModel_mayCome_80, ↓sModel_mayCome_81, ↓sModel_mayCome_83, ↓sModel_mayCome_85, ↓sModel_mayCome_86, ↓sModel_mayCome_89, ↓sModel_mayCome_91, ↓sModel_mayCome_94, ↓sModel_mayCome_95, ↓sModel_mayCome_96, ↓sModel_mayCome_99, ↓sModel_mayCome_101, ↓sModel_mayCome_102, ↓sModel_mayCome_103, ↓sModel_mayCome_104, ↓sModel_mayCome_105, ↓sModel_mayCome_108, ↓sModel_mayCome_109, ↓sModel_mayCome_110, ↓sModel_mayCome_111, ↓sModel_mayCome_113, ↓sModel_mayCome_114, ↓sModel_mayCome_115, ↓sModel_mayCome_118, ↓sModel_mayCome_120, ↓sModel_mayCome_123, ↓sModel_mayCome_126, ↓sModel_mayCome_128, ↓ln_51, ↓ln_52, ↓ln_53, ↓ln_63, List.set_cons_zero, List.set_cons_succ, List.length_cons, List.length_nil, List.contains_cons, List.contains_nil, cat1, brP_d, true_and, and_true, not_false_eq_true, not_true_eq_false, if_true, if_false, Bool.or_false, Bool.false_or, Bool.or_true, Bool.true_or, Bool.false_eq_true, Bool.or_self, false_implies, true_implies, forall_const, and_self, implies_true, true_or, or_true, or_false, false_or, or_self, Classical.not_not, Int.reduceAdd, Int.reduceSub, Int.reduceMul, Int.reduceNeg, Int.reduceToNat, Int.reduceLT, Int.reduceLE, Int.reduceEq, Int.reduceNe, Int.reduceNatCast', Nat.reduceAdd, Nat.reduceSub, Nat.reduceLeDiff, Nat.reduceLT, Nat.reduceEqDiff, Nat.reduceBEq, reduceIte, nx_w, nx_c, up_n, up_s, up_f, ne_eq, Nat.reduceEqDiff, Option.some.injEq, Prod.mk.injEq, exists_eq_left', reduceCtorEq, ob_43, e26]
      refine ⟨fun c1 => Or.inl ⟨rfl, Or.inr ⟨hpos, z2, ⟨z1, by omega, fun t ht => z4 t (by omega)⟩, z3⟩⟩, fun c1 => ?_⟩
      have e63 := (hj.2 (i.toNat + 1) (by push_cast; omega)).2
      have e52 : h 52 (4 * r + i.toNat) = g 18 (4 * r + i.toNat) := (hm.2.2.1.2.1 r hr).2 i.toNat (by omega)
      rw [wr_id (x := i + 1) (by omega) (by omega), wr_id (x := 4 * (r : Int)) (by omega) (by omega), wr_id (x := 4 * (r : Int) + i) (by omega) (by omega), show (i + 1).toNat = i.toNat + 1 by omega, show (4 * (r : Int) + i).toNat = 4 * r + i.toNat by omega, e63, e52]
      refine ⟨by omega, by omega, ?_⟩
      refine use_b (t_Model_isAs g h hC.1 hm.1 (mW g (i.toNat + 1)) (g 18 (4 * r + i.toNat)) (ha.2.2 (i.toNat + 1) (by push_cast; omega)).1) (fun hc => ?_) (fun hc => ?_)
      · refine ih (i + 1) 1 (by omega) (by omega) (by omega) (Or.inl ⟨rfl, z1, z2, z3, fun t ht => ?_⟩)
        by_cases e : (t : Int) = i
        · rw [show t = i.toNat by omega]; exact hc
        · exact z4 t (by omega)
      · exact ih (i + 1) 0 (by omega) (by omega) (by omega) (Or.inr ⟨rfl, fun z => by
          rcases z with ⟨y, _⟩ | ⟨_, _, y, _⟩
          · omega
          · exact hc (y.2.2 i.toNat (by omega))⟩)
    · refine go [83] 400 (k := ?_)
      simp (config := {maxSteps := 1000000}) only [↓pI_c, ↓pR_c, ↓pJ_c, ↓pV_c, ↓popN_0, ↓popN_s, ↓lI_0, ↓lR_0, ↓lJ_0, ↓lI_s, ↓lR_s, ↓lJ_s, ↓okSt_0, ↓okSt_I, ↓okSt_R, ↓okSt_N, ↓okSt_s, ↓rtI_s, ↓rtV_n, ↓brP_t, ↓brP_f, ↓sModel_mayCome_0, ↓sModel_mayCome_1, ↓rf_43_26, ↓sModel_mayCome_4, ↓sModel_mayCome_7, ↓sModel_mayCome_8, ↓rf_43_11, ↓sModel_mayCome_11, ↓sModel_mayCome_12, ↓sModel_mayCome_13, ↓sModel_mayCome_14, ↓sModel_mayCome_17, ↓sModel_mayCome_18, ↓sModel_mayCome_21, ↓sModel_mayCome_22, ↓sModel_mayCome_23, ↓sModel_mayCome_24, ↓sModel_mayCome_27, ↓sModel_mayCome_28, ↓sModel_mayCome_29, ↓sModel_mayCome_30, ↓sModel_mayCome_31, ↓sModel_mayCome_34, ↓sModel_mayCome_35, ↓sModel_mayCome_36, ↓sModel_mayCome_37, ↓rf_43_28, ↓sModel_mayCome_40, ↓sModel_mayCome_41, ↓sModel_mayCome_42, ↓sModel_mayCome_45, ↓sModel_mayCome_46, ↓rf_43_13, ↓sModel_mayCome_49, ↓sModel_mayCome_50, ↓sModel_mayCome_51, ↓sModel_mayCome_52, ↓sModel_mayCome_55, ↓sModel_mayCome_56, ↓sModel_mayCome_57, ↓sModel_mayCome_58, ↓rf_43_12, ↓sModel_mayCome_61, ↓sModel_mayCome_62, ↓sModel_mayCome_63, ↓sModel_mayCome_64, ↓sModel_mayCome_65, ↓sModel_mayCome_66, ↓sModel_mayCome_67, ↓sModel_mayCome_70, ↓sModel_mayCome_73, ↓sModel_mayCome_74, ↓sModel_mayCome_77, ↓sModel_mayCome_78, ↓sModel_mayCome_80, ↓sModel_mayCome_81, ↓sModel_mayCome_83, ↓sModel_mayCome_85, ↓sModel_mayCome_86, ↓sModel_mayCome_89, ↓sModel_mayCome_91, ↓sModel_mayCome_94, ↓sModel_mayCome_95, ↓sModel_mayCome_96, ↓sModel_mayCome_99, ↓sModel_mayCome_101, ↓sModel_mayCome_102, ↓sModel_mayCome_103, ↓sModel_mayCome_104, ↓sModel_mayCome_105, ↓sModel_mayCome_108, ↓sModel_mayCome_109, ↓sModel_mayCome_110, ↓sModel_mayCome_111, ↓sModel_mayCome_113, ↓sModel_mayCome_114, ↓sModel_mayCome_115, ↓sModel_mayCome_118, ↓sModel_mayCome_120, ↓sModel_mayCome_123, ↓sModel_mayCome_126, ↓sModel_mayCome_128, ↓ln_51, ↓ln_52, ↓ln_53, ↓ln_63, List.set_cons_zero, List.set_cons_succ, List.length_cons, List.length_nil, List.contains_cons, List.contains_nil, cat1, brP_d, true_and, and_true, not_false_eq_true, not_true_eq_false, if_true, if_false, Bool.or_false, Bool.false_or, Bool.or_true, Bool.true_or, Bool.false_eq_true, Bool.or_self, false_implies, true_implies, forall_const, and_self, implies_true, true_or, or_true, or_false, false_or, or_self, Classical.not_not, Int.reduceAdd, Int.reduceSub, Int.reduceMul, Int.reduceNeg, Int.reduceToNat, Int.reduceLT, Int.reduceLE, Int.reduceEq, Int.reduceNe, Int.reduceNatCast', Nat.reduceAdd, Nat.reduceSub, Nat.reduceLeDiff, Nat.reduceLT, Nat.reduceEqDiff, Nat.reduceBEq, reduceIte, nx_w, nx_c, up_n, up_s, up_f, ne_eq, Nat.reduceEqDiff, Option.some.injEq, Prod.mk.injEq, exists_eq_left', reduceCtorEq, ob_43, e26]
      exact ⟨fun _ => Or.inr ⟨rfl, z⟩, fun _ => Or.inr ⟨rfl, z⟩⟩
set_option maxRecDepth 100000 in
set_option maxHeartbeats 4000000 in
theorem t_Model_mayCome (g h : HP) (hC : CI g) (hm : CM g h) (hj : jdG g h) (ha : mN g = 0 ∨ allK g) (w r : Nat) (hw : (w : Int) < g 10 4) (hr : (r : Int) < g 15 3) : trI mModel_mayCome [.inr (.inr 43), .inl w, .inl r] SH0 h (fun x h' => h' = h ∧ bP (mcP g w r) x) := by
  have hR := hC.2.2.1
  have h40 := hR.2.1
  have hn := mN_in hC.2.2.2.2
  have l4 := hR.2.2.2 r (by omega)
  have e26 := hj.1
  have er : ((r : Int)).toNat = r := by omega
  have e51 := (hm.2.2.1.2.1 r hr).1
  have e53 : h 53 r = g 17 r := hm.2.2.1.2.2 r (by omega)
  rcases ha with ha | ha
  · rw [ha] at e26
    refine startI [some (.inr (.inr 43)), some (.inl w), some (.inl r), none, none, none] mModel_mayCome_c (go [83] 400 (k := ?_))
    simp (config := {maxSteps := 1000000}) only [↓pI_c, ↓pR_c, ↓pJ_c, ↓pV_c, ↓popN_0, ↓popN_s, ↓lI_0, ↓lR_0, ↓lJ_0, ↓lI_s, ↓lR_s, ↓lJ_s, ↓okSt_0, ↓okSt_I, ↓okSt_R, ↓okSt_N, ↓okSt_s, ↓rtI_s, ↓rtV_n, ↓brP_t, ↓brP_f, ↓sModel_mayCome_0, ↓sModel_mayCome_1, ↓rf_43_26, ↓sModel_mayCome_4, ↓sModel_mayCome_7, ↓sModel_mayCome_8, ↓rf_43_11, ↓sModel_mayCome_11, ↓sModel_mayCome_12, ↓sModel_mayCome_13, ↓sModel_mayCome_14, ↓sModel_mayCome_17, ↓sModel_mayCome_18, ↓sModel_mayCome_21, ↓sModel_mayCome_22, ↓sModel_mayCome_23, ↓sModel_mayCome_24, ↓sModel_mayCome_27, ↓sModel_mayCome_28, ↓sModel_mayCome_29, ↓sModel_mayCome_30, ↓sModel_mayCome_31, ↓sModel_mayCome_34, ↓sModel_mayCome_35, ↓sModel_mayCome_36, ↓sModel_mayCome_37, ↓rf_43_28, ↓sModel_mayCome_40, ↓sModel_mayCome_41, ↓sModel_mayCome_42, ↓sModel_mayCome_45, ↓sModel_mayCome_46, ↓rf_43_13, ↓sModel_mayCome_49, ↓sModel_mayCome_50, ↓sModel_mayCome_51, ↓sModel_mayCome_52, ↓sModel_mayCome_55, ↓sModel_mayCome_56, ↓sModel_mayCome_57, ↓sModel_mayCome_58, ↓rf_43_12, ↓sModel_mayCome_61, ↓sModel_mayCome_62, ↓sModel_mayCome_63, ↓sModel_mayCome_64, ↓sModel_mayCome_65, ↓sModel_mayCome_66, ↓sModel_mayCome_67, ↓sModel_mayCome_70, ↓sModel_mayCome_73, ↓sModel_mayCome_74, ↓sModel_mayCome_77, ↓sModel_mayCome_78, ↓sModel_mayCome_80, ↓sModel_mayCome_81, ↓sModel_mayCome_83, ↓sModel_mayCome_85, ↓sModel_mayCome_86, ↓sModel_mayCome_89, ↓sModel_mayCome_91, ↓sModel_mayCome_94, ↓sModel_mayCome_95, ↓sModel_mayCome_96, ↓sModel_mayCome_99, ↓sModel_mayCome_101, ↓sModel_mayCome_102, ↓sModel_mayCome_103, ↓sModel_mayCome_104, ↓sModel_mayCome_105, ↓sModel_mayCome_108, ↓sModel_mayCome_109, ↓sModel_mayCome_110, ↓sModel_mayCome_111, ↓sModel_mayCome_113, ↓sModel_mayCome_114, ↓sModel_mayCome_115, ↓sModel_mayCome_118, ↓sModel_mayCome_120, ↓sModel_mayCome_123, ↓sModel_mayCome_126, ↓sModel_mayCome_128, ↓ln_51, ↓ln_52, ↓ln_53, ↓ln_63, List.set_cons_zero, List.set_cons_succ, List.length_cons, List.length_nil, List.contains_cons, List.contains_nil, cat1, brP_d, true_and, and_true, not_false_eq_true, not_true_eq_false, if_true, if_false, Bool.or_false, Bool.false_or, Bool.or_true, Bool.true_or, Bool.false_eq_true, Bool.or_self, false_implies, true_implies, forall_const, and_self, implies_true, true_or, or_true, or_false, false_or, or_self, Classical.not_not, Int.reduceAdd, Int.reduceSub, Int.reduceMul, Int.reduceNeg, Int.reduceToNat, Int.reduceLT, Int.reduceLE, Int.reduceEq, Int.reduceNe, Int.reduceNatCast', Nat.reduceAdd, Nat.reduceSub, Nat.reduceLeDiff, Nat.reduceLT, Nat.reduceEqDiff, Nat.reduceBEq, reduceIte, nx_w, nx_c, up_n, up_s, up_f, ne_eq, Nat.reduceEqDiff, Option.some.injEq, Prod.mk.injEq, exists_eq_left', reduceCtorEq, ob_43, e26, er, e51]
    refine ⟨by omega, fun c1 => Or.inr ⟨rfl, ?_⟩, fun c1 => Or.inl ⟨rfl, Or.inl ⟨ha, c1⟩⟩⟩
    rintro (⟨_, y⟩ | ⟨y, _⟩)
    · exact c1 y
    · omega
  · have hpos := ha.1
    have e63 := (hj.2 0 (by omega)).2
    have ne : ¬ mN g = 0 := by omega
    refine startI [some (.inr (.inr 43)), some (.inl w), some (.inl r), none, none, none] mModel_mayCome_c (go [83] 400 (k := ?_))
    simp (config := {maxSteps := 1000000}) only [↓pI_c, ↓pR_c, ↓pJ_c, ↓pV_c, ↓popN_0, ↓popN_s, ↓lI_0, ↓lR_0, ↓lJ_0, ↓lI_s, ↓lR_s, ↓lJ_s, ↓okSt_0, ↓okSt_I, ↓okSt_R, ↓okSt_N, ↓okSt_s, ↓rtI_s, ↓rtV_n, ↓brP_t, ↓brP_f, ↓sModel_mayCome_0, ↓sModel_mayCome_1, ↓rf_43_26, ↓sModel_mayCome_4, ↓sModel_mayCome_7, ↓sModel_mayCome_8, ↓rf_43_11, ↓sModel_mayCome_11, ↓sModel_mayCome_12, ↓sModel_mayCome_13, ↓sModel_mayCome_14, ↓sModel_mayCome_17, ↓sModel_mayCome_18, ↓sModel_mayCome_21, ↓sModel_mayCome_22, ↓sModel_mayCome_23, ↓sModel_mayCome_24, ↓sModel_mayCome_27, ↓sModel_mayCome_28, ↓sModel_mayCome_29, ↓sModel_mayCome_30, ↓sModel_mayCome_31, ↓sModel_mayCome_34, ↓sModel_mayCome_35, ↓sModel_mayCome_36, ↓sModel_mayCome_37, ↓rf_43_28, ↓sModel_mayCome_40, ↓sModel_mayCome_41, ↓sModel_mayCome_42, ↓sModel_mayCome_45, ↓sModel_mayCome_46, ↓rf_43_13, ↓sModel_mayCome_49, ↓sModel_mayCome_50, ↓sModel_mayCome_51, ↓sModel_mayCome_52, ↓sModel_mayCome_55, ↓sModel_mayCome_56, ↓sModel_mayCome_57, ↓sModel_mayCome_58, ↓rf_43_12, ↓sModel_mayCome_61, ↓sModel_mayCome_62, ↓sModel_mayCome_63, ↓sModel_mayCome_64, ↓sModel_mayCome_65, ↓sModel_mayCome_66, ↓sModel_mayCome_67, ↓sModel_mayCome_70, ↓sModel_mayCome_73, ↓sModel_mayCome_74, ↓sModel_mayCome_77, ↓sModel_mayCome_78, ↓sModel_mayCome_80, ↓sModel_mayCome_81, ↓sModel_mayCome_83, ↓sModel_mayCome_85, ↓sModel_mayCome_86, ↓sModel_mayCome_89, ↓sModel_mayCome_91, ↓sModel_mayCome_94, ↓sModel_mayCome_95, ↓sModel_mayCome_96, ↓sModel_mayCome_99, ↓sModel_mayCome_101, ↓sModel_mayCome_102, ↓sModel_mayCome_103, ↓sModel_mayCome_104, ↓sModel_mayCome_105, ↓sModel_mayCome_108, ↓sModel_mayCome_109, ↓sModel_mayCome_110, ↓sModel_mayCome_111, ↓sModel_mayCome_113, ↓sModel_mayCome_114, ↓sModel_mayCome_115, ↓sModel_mayCome_118, ↓sModel_mayCome_120, ↓sModel_mayCome_123, ↓sModel_mayCome_126, ↓sModel_mayCome_128, ↓ln_51, ↓ln_52, ↓ln_53, ↓ln_63, List.set_cons_zero, List.set_cons_succ, List.length_cons, List.length_nil, List.contains_cons, List.contains_nil, cat1, brP_d, true_and, and_true, not_false_eq_true, not_true_eq_false, if_true, if_false, Bool.or_false, Bool.false_or, Bool.or_true, Bool.true_or, Bool.false_eq_true, Bool.or_self, false_implies, true_implies, forall_const, and_self, implies_true, true_or, or_true, or_false, false_or, or_self, Classical.not_not, Int.reduceAdd, Int.reduceSub, Int.reduceMul, Int.reduceNeg, Int.reduceToNat, Int.reduceLT, Int.reduceLE, Int.reduceEq, Int.reduceNe, Int.reduceNatCast', Nat.reduceAdd, Nat.reduceSub, Nat.reduceLeDiff, Nat.reduceLT, Nat.reduceEqDiff, Nat.reduceBEq, reduceIte, nx_w, nx_c, up_n, up_s, up_f, ne_eq, Nat.reduceEqDiff, Option.some.injEq, Prod.mk.injEq, exists_eq_left', reduceCtorEq, ob_43, e26, er, e51, e53, e63, ne]
    rw [wr_id (x := mN g - 1) (by omega) (by omega), wr_id (x := 4 * (r : Int)) (by omega) (by omega), wr_id (x := 4 * (r : Int) + (mN g - 1)) (by omega) (by omega), show (4 * (r : Int) + (mN g - 1)).toNat = 4 * r + (mN g - 1).toNat by omega]
    have lp := l_Model_mayCome g h hC hm hj ha w r hw hr ((mN g).toNat + 1) 0
    have no : ∀ z : ¬ mcP g w r, Wn Z4 mModel_mayCome SH0 83 [some (.inr (.inr 43)), some (.inl w), some (.inl r), some (.inl (mN g - 1)), some (.inl 0), some (.inl 0)] [] h (rtI (fun x h' => h' = h ∧ bP (mcP g w r) x)) := fun z => lp 0 (by omega) (by omega) (by omega) (Or.inr ⟨rfl, z⟩)
    refine ⟨by omega, fun c1 => no (fun z => by
      rcases z with ⟨y, _⟩ | ⟨_, _, y, _⟩
      · omega
      · exact c1 y.1), fun c1 => ⟨by omega, fun c2 => no (fun z => by
      rcases z with ⟨y, _⟩ | ⟨_, y, _⟩
      · omega
      · omega), fun c2 => ⟨by omega, ?_⟩⟩⟩
    have e52 : h 52 (4 * r + (mN g - 1).toNat) = g 18 (4 * r + (mN g - 1).toNat) := (hm.2.2.1.2.1 r hr).2 (mN g - 1).toNat (by omega)
    rw [e52]
    refine use_b (t_Model_isAs g h hC.1 hm.1 w _ ⟨by omega, hw⟩) (fun hc => ?_) (fun hc => ?_)
    · simp only [one_ne, not_false_eq_true, true_implies, false_implies, true_and, and_true]
      exact lp 1 (by omega) (by omega) (by omega) (Or.inl ⟨rfl, c1, by omega, hc, fun t ht => by omega⟩)
    · simp only [not_true_eq_false, true_implies, false_implies, true_and, and_true]
      exact no (fun z => by
        rcases z with ⟨y, _⟩ | ⟨_, _, _, y⟩
        · omega
        · exact hc y)
def htF (h0 h : HP) : Prop := (∀ a, a ≠ 43 → a ≠ 75 → h a = h0 a) ∧ ∀ b, b ≠ 49 → h 43 b = h0 43 b
theorem htF.rf {h : HP} : htF h h := ⟨fun _ _ _ => rfl, fun _ _ => rfl⟩
theorem htFu {h h' : HP} (h1 : htF h h') {x : Int} : htF h (up h' 43 49 x) := ⟨fun a a1 a2 => by rw [up_ne a1]; exact h1.1 a a1 a2, fun b b1 => by rw [up_f b1]; exact h1.2 b b1⟩
theorem htFu5 {h h' : HP} (h1 : htF h h') {j : Nat} {x : Int} : htF h (up h' 75 j x) := ⟨fun a a1 a2 => by rw [up_ne a2]; exact h1.1 a a1 a2, fun b b1 => by rw [up_n (by decide)]; exact h1.2 b b1⟩
theorem MS.ht {h0 h : HP} (e : htF h0 h) : MS h0 h := ⟨fun k hk => e.1 k (by omega) (by omega), fun k j hp => by
  by_cases z : k = 43
  · subst z
    exact e.2 j (by rintro rfl; cases hp)
  · rw [e.1 k z (by rintro rfl; cases hp)]⟩
theorem jdG.ht {g h0 h : HP} (e : htF h0 h) (hj : jdG g h0) : jdG g h := by
  unfold jdG at *
  rw [e.2 26 (by decide), e.1 62 (by decide) (by decide), e.1 63 (by decide) (by decide)]
  exact hj
theorem allK_v {g : HP} {v c p x : Int} (h : verdR g (mN g) (fun i => mT g i) (mW g) v c p x) (ha : allK g) : v = 0 ∨ v = 6 := by
  rcases h with ⟨a, _⟩ | ⟨a1, a2, a3, a4, q, a5, a6, a7, a8, a9⟩ | ⟨a1, a2, a⟩
  · have := ha.1; omega
  · have := (ha.2.2 q a5).1; omega
  · rcases a with ⟨z, _⟩ | ⟨_, q, z1, z2, _⟩ | ⟨b1, b2, b3, b4, b5⟩
    · exact absurd ha.2.1 z
    · exact absurd z2 (ha.2.2 q z1).2
    · split at b5 <;> omega
theorem mN0_v {g : HP} {v c p x : Int} (h : verdR g (mN g) (fun i => mT g i) (mW g) v c p x) : (mN g = 0 → v = 1) ∧ (v = 1 → mN g = 0) := by
  rcases h with ⟨a, a', _⟩ | ⟨a1, a2, a3, a4, _⟩ | ⟨a1, a2, a⟩
  · omega
  · split at a4 <;> omega
  · rcases a with ⟨_, z, _⟩ | ⟨_, q, _, _, _, z, _⟩ | ⟨b1, b2, b3, b4, b5⟩
    · omega
    · omega
    · split at b5 <;> omega
theorem comP_mc {g : HP} {v c p x : Int} (h : verdR g (mN g) (fun i => mT g i) (mW g) v c p x) (ha : mN g = 0 ∨ allK g) (w : Nat) : comP g v w ↔ (seenW g w ∧ ∃ r : Nat, (r : Int) < g 15 3 ∧ mcP g w r) := by
  have hv := mN0_v h
  rcases ha with ha | ha
  · have v1 := hv.1 ha
    constructor
    · rintro ⟨s, ⟨_, r, r1, r2⟩ | ⟨z, _⟩⟩
      · exact ⟨s, r, r1, Or.inl ⟨ha, r2⟩⟩
      · omega
    · rintro ⟨s, r, r1, ⟨_, r2⟩ | ⟨z, _⟩⟩
      · exact ⟨s, Or.inl ⟨v1, r, r1, r2⟩⟩
      · omega
  · have v1 := allK_v h ha
    have hpos := ha.1
    constructor
    · rintro ⟨s, ⟨z, _⟩ | ⟨_, r, r1, r2⟩⟩
      · omega
      · exact ⟨s, r, r1, Or.inr ⟨hpos, r2⟩⟩
    · rintro ⟨s, r, r1, ⟨z, _⟩ | ⟨_, r2⟩⟩
      · omega
      · exact ⟨s, Or.inr ⟨v1, r, r1, r2⟩⟩
-- whether some rule lets the word come
set_option maxRecDepth 100000 in
set_option maxHeartbeats 4000000 in
theorem h3_Model_hints (g h : HP) (hC : CI g) (hm : CM g h) (hj : jdG g h) (ha : mN g = 0 ∨ allK g) (w : Nat) (hw : (w : Int) < g 10 4) (P : Option AV → HP → Prop) (hX : ∀ s r, bP (seenW g w ∧ ∃ r : Nat, (r : Int) < g 15 3 ∧ mcP g w r) s → Wn Z4 mModel_hints SH0 167 [some (.inr (.inr 43)), some (.inl 1), some (.inl w), some (.inl s), some (.inl r)] [] h P) : ∀ (d r : Nat) (s : Int), g 15 3 - r < d → (r : Int) ≤ g 15 3 → bP (seenW g w ∧ ∃ r' : Nat, r' < r ∧ mcP g w r') s → Wn Z4 mModel_hints SH0 114 [some (.inr (.inr 43)), some (.inl 1), some (.inl w), some (.inl s), some (.inl r)] [] h P := by
  have hR := hC.2.2.1
  have h40 := hR.2.1
  have h60 := hC.1.2.1
  have e10 : h 43 10 = g 15 3 := hm.2.2.1.1
  have e44 : h 44 w = g 11 w := (hm.1.2 w hw).1
  have ew : ((w : Int)).toNat = w := by omega
  intro d
  induction d with
  | zero => intro r s h1 h2; omega
  | succ d ih =>
    intro r s h1 h2 h3
    rcases h3 with ⟨rfl, y1, r', y2, y3⟩ | ⟨rfl, y⟩
    · refine go [114,167] 400 (k := ?_)
      simp (config := {maxSteps := 1000000}) only [↓pI_c, ↓pR_c, ↓pJ_c, ↓pV_c, ↓popN_0, ↓popN_s, ↓lI_0, ↓lR_0, ↓lJ_0, ↓lI_s, ↓lR_s, ↓lJ_s, ↓okSt_0, ↓okSt_I, ↓okSt_R, ↓okSt_N, ↓okSt_s, ↓rtI_s, ↓rtV_n, ↓brP_t, ↓brP_f, ↓sModel_hints_0, ↓sModel_hints_1, ↓sModel_hints_4, ↓sModel_hints_5, ↓sModel_hints_6, ↓rf_43_49, ↓sModel_hints_9, ↓sModel_hints_10, ↓rf_43_26, ↓sModel_hints_13, ↓sModel_hints_16, ↓sModel_hints_17, ↓rf_43_28, ↓sModel_hints_20, ↓sModel_hints_21, ↓sModel_hints_22, ↓sModel_hints_23, ↓sModel_hints_26, ↓sModel_hints_27, ↓rf_43_2, ↓sModel_hints_30, ↓sModel_hints_31, ↓sModel_hints_34, ↓sModel_hints_35, ↓sModel_hints_36, ↓sModel_hints_37, ↓sModel_hints_40, ↓sModel_hints_41, ↓sModel_hints_44, ↓sModel_hints_45, ↓sModel_hints_46, ↓sModel_hints_47, ↓sModel_hints_48, ↓sModel_hints_49, ↓sModel_hints_50, ↓sModel_hints_53, ↓sModel_hints_56, ↓sModel_hints_57, ↓sModel_hints_60, ↓sModel_hints_61, ↓sModel_hints_64, ↓sModel_hints_65, ↓sModel_hints_66, ↓sModel_hints_67, ↓sModel_hints_70, ↓sModel_hints_71, ↓sModel_hints_72, ↓sModel_hints_75, ↓sModel_hints_76, ↓sModel_hints_77, ↓sModel_hints_80, ↓sModel_hints_83, ↓sModel_hints_84, ↓sModel_hints_87, ↓sModel_hints_88, ↓sModel_hints_89, ↓sModel_hints_92, ↓sModel_hints_95, ↓sModel_hints_96, ↓sModel_hints_97, ↓sModel_hints_98, ↓sModel_hints_99, ↓rf_43_1, ↓sModel_hints_102, ↓sModel_hints_105, ↓sModel_hints_106, ↓sModel_hints_109, ↓sModel_hints_110, ↓sModel_hints_111, ↓sModel_hints_112, ↓sModel_hints_114, ↓sModel_hints_116, ↓sModel_hints_117, ↓rf_43_10, ↓sModel_hints_120, ↓sModel_hints_123, ↓sModel_hints_124, ↓sModel_hints_127, ↓sModel_hints_128, ↓sModel_hints_129, ↓sModel_hints_132, ↓sModel_hints_135, ↓sModel_hints_136, ↓sModel_hints_139, ↓sModel_hints_140, ↓sModel_hints_141, ↓sModel_hints_142, ↓sModel_hints_145, ↓sModel_hints_146, ↓sModel_hints_147, ↓sModel_hints_149, ↓sModel_hints_152, ↓sModel_hints_155, ↓sModel_hints_156, ↓sModel_hints_159, ↓sModel_hints_160, ↓sModel_hints_161, ↓sModel_hints_164, ↓sModel_hints_167, ↓sModel_hints_168, ↓sModel_hints_171, ↓sModel_hints_172, ↓rf_43_50, ↓sModel_hints_175, ↓sModel_hints_176, ↓sModel_hints_179, ↓sModel_hints_180, ↓sModel_hints_181, ↓sModel_hints_182, ↓sModel_hints_183, ↓sModel_hints_186, ↓sModel_hints_187, ↓sModel_hints_188, ↓sModel_hints_191, ↓sModel_hints_194, ↓sModel_hints_197, ↓ln_44, ↓ln_63, ↓ln_75, List.set_cons_zero, List.set_cons_succ, List.length_cons, List.length_nil, List.contains_cons, List.contains_nil, cat1, brP_d, true_and, and_true, not_false_eq_true, not_true_eq_false, if_true, if_false, Bool.or_false, Bool.false_or, Bool.or_true, Bool.true_or, Bool.false_eq_true, Bool.or_self, false_implies, true_implies, forall_const, and_self, implies_true, true_or, or_true, or_false, false_or, or_self, Classical.not_not, Int.reduceAdd, Int.reduceSub, Int.reduceMul, Int.reduceNeg, Int.reduceToNat, Int.reduceLT, Int.reduceLE, Int.reduceEq, Int.reduceNe, Int.reduceNatCast', Nat.reduceAdd, Nat.reduceSub, Nat.reduceLeDiff, Nat.reduceLT, Nat.reduceEqDiff, Nat.reduceBEq, reduceIte, nx_w, nx_c, up_n, up_s, up_f, ne_eq, Nat.reduceEqDiff, Option.some.injEq, Prod.mk.injEq, exists_eq_left', reduceCtorEq, ob_43, e10]
      refine ⟨fun c1 => hX _ _ (Or.inl ⟨rfl, y1, r', by omega, y3⟩), fun c1 => ?_⟩
      rw [wr_id (x := (r : Int) + 1) (by omega) (by omega)]
      have := ih (r + 1) 1 (by push_cast; omega) (by push_cast; omega) (Or.inl ⟨rfl, y1, r', by omega, y3⟩)
      push_cast at this
      exact this
    · refine go [114,167] 400 (k := ?_)
      simp (config := {maxSteps := 1000000}) only [↓pI_c, ↓pR_c, ↓pJ_c, ↓pV_c, ↓popN_0, ↓popN_s, ↓lI_0, ↓lR_0, ↓lJ_0, ↓lI_s, ↓lR_s, ↓lJ_s, ↓okSt_0, ↓okSt_I, ↓okSt_R, ↓okSt_N, ↓okSt_s, ↓rtI_s, ↓rtV_n, ↓brP_t, ↓brP_f, ↓sModel_hints_0, ↓sModel_hints_1, ↓sModel_hints_4, ↓sModel_hints_5, ↓sModel_hints_6, ↓rf_43_49, ↓sModel_hints_9, ↓sModel_hints_10, ↓rf_43_26, ↓sModel_hints_13, ↓sModel_hints_16, ↓sModel_hints_17, ↓rf_43_28, ↓sModel_hints_20, ↓sModel_hints_21, ↓sModel_hints_22, ↓sModel_hints_23, ↓sModel_hints_26, ↓sModel_hints_27, ↓rf_43_2, ↓sModel_hints_30, ↓sModel_hints_31, ↓sModel_hints_34, ↓sModel_hints_35, ↓sModel_hints_36, ↓sModel_hints_37, ↓sModel_hints_40, ↓sModel_hints_41, ↓sModel_hints_44, ↓sModel_hints_45, ↓sModel_hints_46, ↓sModel_hints_47, ↓sModel_hints_48, ↓sModel_hints_49, ↓sModel_hints_50, ↓sModel_hints_53, ↓sModel_hints_56, ↓sModel_hints_57, ↓sModel_hints_60, ↓sModel_hints_61, ↓sModel_hints_64, ↓sModel_hints_65, ↓sModel_hints_66, ↓sModel_hints_67, ↓sModel_hints_70, ↓sModel_hints_71, ↓sModel_hints_72, ↓sModel_hints_75, ↓sModel_hints_76, ↓sModel_hints_77, ↓sModel_hints_80, ↓sModel_hints_83, ↓sModel_hints_84, ↓sModel_hints_87, ↓sModel_hints_88, ↓sModel_hints_89, ↓sModel_hints_92, ↓sModel_hints_95, ↓sModel_hints_96, ↓sModel_hints_97, ↓sModel_hints_98, ↓sModel_hints_99, ↓rf_43_1, ↓sModel_hints_102, ↓sModel_hints_105, ↓sModel_hints_106, ↓sModel_hints_109, ↓sModel_hints_110, ↓sModel_hints_111, ↓sModel_hints_112, ↓sModel_hints_114, ↓sModel_hints_116, ↓sModel_hints_117, ↓rf_43_10, ↓sModel_hints_120, ↓sModel_hints_123, ↓sModel_hints_124, ↓sModel_hints_127, ↓sModel_hints_128, ↓sModel_hints_129, ↓sModel_hints_132, ↓sModel_hints_135, ↓sModel_hints_136, ↓sModel_hints_139, ↓sModel_hints_140, ↓sModel_hints_141, ↓sModel_hints_142, ↓sModel_hints_145, ↓sModel_hints_146, ↓sModel_hints_147, ↓sModel_hints_149, ↓sModel_hints_152, ↓sModel_hints_155, ↓sModel_hints_156, ↓sModel_hints_159, ↓sModel_hints_160, ↓sModel_hints_161, ↓sModel_hints_164, ↓sModel_hints_167, ↓sModel_hints_168, ↓sModel_hints_171, ↓sModel_hints_172, ↓rf_43_50, ↓sModel_hints_175, ↓sModel_hints_176, ↓sModel_hints_179, ↓sModel_hints_180, ↓sModel_hints_181, ↓sModel_hints_182, ↓sModel_hints_183, ↓sModel_hints_186, ↓sModel_hints_187, ↓sModel_hints_188, ↓sModel_hints_191, ↓sModel_hints_194, ↓sModel_hints_197, ↓ln_44, ↓ln_63, ↓ln_75, List.set_cons_zero, List.set_cons_succ, List.length_cons, List.length_nil, List.contains_cons, List.contains_nil, cat1, brP_d, true_and, and_true, not_false_eq_true, not_true_eq_false, if_true, if_false, Bool.or_false, Bool.false_or, Bool.or_true, Bool.true_or, Bool.false_eq_true, Bool.or_self, false_implies, true_implies, forall_const, and_self, implies_true, true_or, or_true, or_false, false_or, or_self, Classical.not_not, Int.reduceAdd, Int.reduceSub, Int.reduceMul, Int.reduceNeg, Int.reduceToNat, Int.reduceLT, Int.reduceLE, Int.reduceEq, Int.reduceNe, Int.reduceNatCast', Nat.reduceAdd, Nat.reduceSub, Nat.reduceLeDiff, Nat.reduceLT, Nat.reduceEqDiff, Nat.reduceBEq, reduceIte, nx_w, nx_c, up_n, up_s, up_f, ne_eq, Nat.reduceEqDiff, Option.some.injEq, Prod.mk.injEq, exists_eq_left', reduceCtorEq, ob_43, e10, ew, e44]
      rw [wr_id (x := (r : Int) + 1) (by omega) (by omega)]
      refine ⟨fun c1 => hX _ _ (Or.inr ⟨rfl, fun ⟨z1, q, z2, z3⟩ => y ⟨z1, q, by omega, z3⟩⟩), fun c1 => ?_⟩
      have yes := ih (r + 1) 1 (by push_cast; omega) (by push_cast; omega)
      have no := ih (r + 1) 0 (by push_cast; omega) (by push_cast; omega)
      push_cast at yes no
      refine use_b (t_Model_inScopeG g h hC.1 hm.1 w ⟨by omega, hw⟩) (fun s1 => ?_) (fun s1 => ?_)
      · simp only [one_ne, not_false_eq_true, true_implies, false_implies, true_and, and_true]
        rw [ew] at s1
        rw [e44]
        refine ⟨by omega, fun c2 => no (Or.inr ⟨rfl, fun ⟨z, _⟩ => z.1 c2⟩), fun c2 => ?_⟩
        refine use_b (t_Model_mayCome g h hC hm hj ha w r hw (by omega)) (fun hc => ?_) (fun hc => ?_)
        · simp only [one_ne, not_false_eq_true, true_implies, false_implies, true_and, and_true]
          exact yes (Or.inl ⟨rfl, ⟨c2, s1⟩, r, by omega, hc⟩)
        · simp only [not_true_eq_false, true_implies, false_implies, true_and, and_true]
          exact no (Or.inr ⟨rfl, fun ⟨z1, q, z2, z3⟩ => by
            by_cases e : q = r
            · rw [e] at z3; exact hc z3
            · exact y ⟨z1, q, by omega, z3⟩⟩)
      · simp only [not_true_eq_false, true_implies, false_implies, true_and, and_true]
        rw [ew] at s1
        exact no (Or.inr ⟨rfl, fun ⟨z, _⟩ => s1 z.2⟩)
def hwA (p : Nat → Prop) (m : Int) (f : Nat → Int) (n : Nat) : Prop := m = cntP p n ∧ ∀ u : Nat, u < n → p u → f (cntP p u).toNat = u
set_option maxRecDepth 100000 in
set_option maxHeartbeats 4000000 in
theorem h2_Model_hints (g h0 : HP) (hC : CI g) (hm : CM g h0) (hj : jdG g h0) (ha : mN g = 0 ∨ allK g) (v c p x : Int) (hv : verdR g (mN g) (fun i => mT g i) (mW g) v c p x) : ∀ (d w : Nat) (h : HP) (x3 x4 : Option AV), g 10 4 - w < d → (w : Int) ≤ g 10 4 → htF h0 h → hwA (comP g v) (h 43 49) (h 75) w → Wn Z4 mModel_hints SH0 97 [some (.inr (.inr 43)), some (.inl 1), some (.inl w), x3, x4] [] h (rtV (fun h' => htF h0 h' ∧ hwA (comP g v) (h' 43 49) (h' 75) (g 10 4).toNat)) := by
  have h60 := hC.1.2.1
  have hR := hC.2.2.1
  intro d
  induction d with
  | zero => intro w h x3 x4 h1 h2; omega
  | succ d ih =>
    intro w h x3 x4 h1 h2 h3 h4
    have hm' := hm.ms (MS.ht h3)
    have hj' := hj.ht h3
    have e1 : h 43 1 = g 10 4 := hm'.1.1
    have ew : ((w : Int)).toNat = w := by omega
    have hin := cntP_in (comP g v) w
    refine go [97,114] 400 (k := ?_)
    simp (config := {maxSteps := 1000000}) only [↓pI_c, ↓pR_c, ↓pJ_c, ↓pV_c, ↓popN_0, ↓popN_s, ↓lI_0, ↓lR_0, ↓lJ_0, ↓lI_s, ↓lR_s, ↓lJ_s, ↓okSt_0, ↓okSt_I, ↓okSt_R, ↓okSt_N, ↓okSt_s, ↓rtI_s, ↓rtV_n, ↓brP_t, ↓brP_f, ↓sModel_hints_0, ↓sModel_hints_1, ↓sModel_hints_4, ↓sModel_hints_5, ↓sModel_hints_6, ↓rf_43_49, ↓sModel_hints_9, ↓sModel_hints_10, ↓rf_43_26, ↓sModel_hints_13, ↓sModel_hints_16, ↓sModel_hints_17, ↓rf_43_28, ↓sModel_hints_20, ↓sModel_hints_21, ↓sModel_hints_22, ↓sModel_hints_23, ↓sModel_hints_26, ↓sModel_hints_27, ↓rf_43_2, ↓sModel_hints_30, ↓sModel_hints_31, ↓sModel_hints_34, ↓sModel_hints_35, ↓sModel_hints_36, ↓sModel_hints_37, ↓sModel_hints_40, ↓sModel_hints_41, ↓sModel_hints_44, ↓sModel_hints_45, ↓sModel_hints_46, ↓sModel_hints_47, ↓sModel_hints_48, ↓sModel_hints_49, ↓sModel_hints_50, ↓sModel_hints_53, ↓sModel_hints_56, ↓sModel_hints_57, ↓sModel_hints_60, ↓sModel_hints_61, ↓sModel_hints_64, ↓sModel_hints_65, ↓sModel_hints_66, ↓sModel_hints_67, ↓sModel_hints_70, ↓sModel_hints_71, ↓sModel_hints_72, ↓sModel_hints_75, ↓sModel_hints_76, ↓sModel_hints_77, ↓sModel_hints_80, ↓sModel_hints_83, ↓sModel_hints_84, ↓sModel_hints_87, ↓sModel_hints_88, ↓sModel_hints_89, ↓sModel_hints_92, ↓sModel_hints_95, ↓sModel_hints_96, ↓sModel_hints_97, ↓sModel_hints_98, ↓sModel_hints_99, ↓rf_43_1, ↓sModel_hints_102, ↓sModel_hints_105, ↓sModel_hints_106, ↓sModel_hints_109, ↓sModel_hints_110, ↓sModel_hints_111, ↓sModel_hints_112, ↓sModel_hints_114, ↓sModel_hints_116, ↓sModel_hints_117, ↓rf_43_10, ↓sModel_hints_120, ↓sModel_hints_123, ↓sModel_hints_124, ↓sModel_hints_127, ↓sModel_hints_128, ↓sModel_hints_129, ↓sModel_hints_132, ↓sModel_hints_135, ↓sModel_hints_136, ↓sModel_hints_139, ↓sModel_hints_140, ↓sModel_hints_141, ↓sModel_hints_142, ↓sModel_hints_145, ↓sModel_hints_146, ↓sModel_hints_147, ↓sModel_hints_149, ↓sModel_hints_152, ↓sModel_hints_155, ↓sModel_hints_156, ↓sModel_hints_159, ↓sModel_hints_160, ↓sModel_hints_161, ↓sModel_hints_164, ↓sModel_hints_167, ↓sModel_hints_168, ↓sModel_hints_171, ↓sModel_hints_172, ↓rf_43_50, ↓sModel_hints_175, ↓sModel_hints_176, ↓sModel_hints_179, ↓sModel_hints_180, ↓sModel_hints_181, ↓sModel_hints_182, ↓sModel_hints_183, ↓sModel_hints_186, ↓sModel_hints_187, ↓sModel_hints_188, ↓sModel_hints_191, ↓sModel_hints_194, ↓sModel_hints_197, ↓ln_44, ↓ln_63, ↓ln_75, List.set_cons_zero, List.set_cons_succ, List.length_cons, List.length_nil, List.contains_cons, List.contains_nil, cat1, brP_d, true_and, and_true, not_false_eq_true, not_true_eq_false, if_true, if_false, Bool.or_false, Bool.false_or, Bool.or_true, Bool.true_or, Bool.false_eq_true, Bool.or_self, false_implies, true_implies, forall_const, and_self, implies_true, true_or, or_true, or_false, false_or, or_self, Classical.not_not, Int.reduceAdd, Int.reduceSub, Int.reduceMul, Int.reduceNeg, Int.reduceToNat, Int.reduceLT, Int.reduceLE, Int.reduceEq, Int.reduceNe, Int.reduceNatCast', Nat.reduceAdd, Nat.reduceSub, Nat.reduceLeDiff, Nat.reduceLT, Nat.reduceEqDiff, Nat.reduceBEq, reduceIte, nx_w, nx_c, up_n, up_s, up_f, ne_eq, Nat.reduceEqDiff, Option.some.injEq, Prod.mk.injEq, exists_eq_left', reduceCtorEq, ob_43, e1]
    refine ⟨fun c1 => ?_, fun c1 => ?_⟩
    · have e : (g 10 4).toNat = w := by omega
      rw [e]
      exact ⟨h3, h4⟩
    · refine h3_Model_hints g h hC hm' hj' ha w (by omega) _ ?_ ((g 15 3).toNat + 1) 0 0 (by have := hR.1; push_cast; omega) (by have := hR.1; push_cast; omega) (Or.inr ⟨rfl, fun ⟨_, q, z, _⟩ => absurd z (Nat.not_lt_zero q)⟩)
      intro s r hs
      rw [← comP_mc hv ha w] at hs
      rcases hs with ⟨rfl, hs⟩ | ⟨rfl, hs⟩
      · refine go [97] 400 (k := ?_)
        simp (config := {maxSteps := 1000000}) only [↓pI_c, ↓pR_c, ↓pJ_c, ↓pV_c, ↓popN_0, ↓popN_s, ↓lI_0, ↓lR_0, ↓lJ_0, ↓lI_s, ↓lR_s, ↓lJ_s, ↓okSt_0, ↓okSt_I, ↓okSt_R, ↓okSt_N, ↓okSt_s, ↓rtI_s, ↓rtV_n, ↓brP_t, ↓brP_f, ↓sModel_hints_0, ↓sModel_hints_1, ↓sModel_hints_4, ↓sModel_hints_5, ↓sModel_hints_6, ↓rf_43_49, ↓sModel_hints_9, ↓sModel_hints_10, ↓rf_43_26, ↓sModel_hints_13, ↓sModel_hints_16, ↓sModel_hints_17, ↓rf_43_28, ↓sModel_hints_20, ↓sModel_hints_21, ↓sModel_hints_22, ↓sModel_hints_23, ↓sModel_hints_26, ↓sModel_hints_27, ↓rf_43_2, ↓sModel_hints_30, ↓sModel_hints_31, ↓sModel_hints_34, ↓sModel_hints_35, ↓sModel_hints_36, ↓sModel_hints_37, ↓sModel_hints_40, ↓sModel_hints_41, ↓sModel_hints_44, ↓sModel_hints_45, ↓sModel_hints_46, ↓sModel_hints_47, ↓sModel_hints_48, ↓sModel_hints_49, ↓sModel_hints_50, ↓sModel_hints_53, ↓sModel_hints_56, ↓sModel_hints_57, ↓sModel_hints_60, ↓sModel_hints_61, ↓sModel_hints_64, ↓sModel_hints_65, ↓sModel_hints_66, ↓sModel_hints_67, ↓sModel_hints_70, ↓sModel_hints_71, ↓sModel_hints_72, ↓sModel_hints_75, ↓sModel_hints_76, ↓sModel_hints_77, ↓sModel_hints_80, ↓sModel_hints_83, ↓sModel_hints_84, ↓sModel_hints_87, ↓sModel_hints_88, ↓sModel_hints_89, ↓sModel_hints_92, ↓sModel_hints_95, ↓sModel_hints_96, ↓sModel_hints_97, ↓sModel_hints_98, ↓sModel_hints_99, ↓rf_43_1, ↓sModel_hints_102, ↓sModel_hints_105, ↓sModel_hints_106, ↓sModel_hints_109, ↓sModel_hints_110, ↓sModel_hints_111, ↓sModel_hints_112, ↓sModel_hints_114, ↓sModel_hints_116, ↓sModel_hints_117, ↓rf_43_10, ↓sModel_hints_120, ↓sModel_hints_123, ↓sModel_hints_124, ↓sModel_hints_127, ↓sModel_hints_128, ↓sModel_hints_129, ↓sModel_hints_132, ↓sModel_hints_135, ↓sModel_hints_136, ↓sModel_hints_139, ↓sModel_hints_140, ↓sModel_hints_141, ↓sModel_hints_142, ↓sModel_hints_145, ↓sModel_hints_146, ↓sModel_hints_147, ↓sModel_hints_149, ↓sModel_hints_152, ↓sModel_hints_155, ↓sModel_hints_156, ↓sModel_hints_159, ↓sModel_hints_160, ↓sModel_hints_161, ↓sModel_hints_164, ↓sModel_hints_167, ↓sModel_hints_168, ↓sModel_hints_171, ↓sModel_hints_172, ↓rf_43_50, ↓sModel_hints_175, ↓sModel_hints_176, ↓sModel_hints_179, ↓sModel_hints_180, ↓sModel_hints_181, ↓sModel_hints_182, ↓sModel_hints_183, ↓sModel_hints_186, ↓sModel_hints_187, ↓sModel_hints_188, ↓sModel_hints_191, ↓sModel_hints_194, ↓sModel_hints_197, ↓ln_44, ↓ln_63, ↓ln_75, List.set_cons_zero, List.set_cons_succ, List.length_cons, List.length_nil, List.contains_cons, List.contains_nil, cat1, brP_d, true_and, and_true, not_false_eq_true, not_true_eq_false, if_true, if_false, Bool.or_false, Bool.false_or, Bool.or_true, Bool.true_or, Bool.false_eq_true, Bool.or_self, false_implies, true_implies, forall_const, and_self, implies_true, true_or, or_true, or_false, false_or, or_self, Classical.not_not, Int.reduceAdd, Int.reduceSub, Int.reduceMul, Int.reduceNeg, Int.reduceToNat, Int.reduceLT, Int.reduceLE, Int.reduceEq, Int.reduceNe, Int.reduceNatCast', Nat.reduceAdd, Nat.reduceSub, Nat.reduceLeDiff, Nat.reduceLT, Nat.reduceEqDiff, Nat.reduceBEq, reduceIte, nx_w, nx_c, up_n, up_s, up_f, ne_eq, Nat.reduceEqDiff, Option.some.injEq, Prod.mk.injEq, exists_eq_left', reduceCtorEq, ob_43]
        rw [h4.1, wr_id (x := (w : Int) + 1) (by omega) (by omega), wr_id (x := cntP (comP g v) w + 1) (by omega) (by omega)]
        refine ⟨by omega, ?_⟩
        have := ih (w + 1) (up (up h 75 (cntP (comP g v) w).toNat w) 43 49 (cntP (comP g v) w + 1)) (some (.inl 1)) (some (.inl r)) (by push_cast; omega) (by push_cast; omega) (htFu (htFu5 h3)) (by
          rw [up_s]
          refine ⟨(cntP_y hs).symm, fun u hu hp => ?_⟩
          rw [up_n (by decide), up_a]
          by_cases e : u = w
          · rw [e, if_pos rfl]
          · have := cntP_lt (show u < w by omega) hp
            have := cntP_in (comP g v) u
            rw [if_neg (by omega)]
            exact h4.2 u (by omega) hp)
        push_cast at this
        exact this
      · refine go [97] 400 (k := ?_)
        simp (config := {maxSteps := 1000000}) only [↓pI_c, ↓pR_c, ↓pJ_c, ↓pV_c, ↓popN_0, ↓popN_s, ↓lI_0, ↓lR_0, ↓lJ_0, ↓lI_s, ↓lR_s, ↓lJ_s, ↓okSt_0, ↓okSt_I, ↓okSt_R, ↓okSt_N, ↓okSt_s, ↓rtI_s, ↓rtV_n, ↓brP_t, ↓brP_f, ↓sModel_hints_0, ↓sModel_hints_1, ↓sModel_hints_4, ↓sModel_hints_5, ↓sModel_hints_6, ↓rf_43_49, ↓sModel_hints_9, ↓sModel_hints_10, ↓rf_43_26, ↓sModel_hints_13, ↓sModel_hints_16, ↓sModel_hints_17, ↓rf_43_28, ↓sModel_hints_20, ↓sModel_hints_21, ↓sModel_hints_22, ↓sModel_hints_23, ↓sModel_hints_26, ↓sModel_hints_27, ↓rf_43_2, ↓sModel_hints_30, ↓sModel_hints_31, ↓sModel_hints_34, ↓sModel_hints_35, ↓sModel_hints_36, ↓sModel_hints_37, ↓sModel_hints_40, ↓sModel_hints_41, ↓sModel_hints_44, ↓sModel_hints_45, ↓sModel_hints_46, ↓sModel_hints_47, ↓sModel_hints_48, ↓sModel_hints_49, ↓sModel_hints_50, ↓sModel_hints_53, ↓sModel_hints_56, ↓sModel_hints_57, ↓sModel_hints_60, ↓sModel_hints_61, ↓sModel_hints_64, ↓sModel_hints_65, ↓sModel_hints_66, ↓sModel_hints_67, ↓sModel_hints_70, ↓sModel_hints_71, ↓sModel_hints_72, ↓sModel_hints_75, ↓sModel_hints_76, ↓sModel_hints_77, ↓sModel_hints_80, ↓sModel_hints_83, ↓sModel_hints_84, ↓sModel_hints_87, ↓sModel_hints_88, ↓sModel_hints_89, ↓sModel_hints_92, ↓sModel_hints_95, ↓sModel_hints_96, ↓sModel_hints_97, ↓sModel_hints_98, ↓sModel_hints_99, ↓rf_43_1, ↓sModel_hints_102, ↓sModel_hints_105, ↓sModel_hints_106, ↓sModel_hints_109, ↓sModel_hints_110, ↓sModel_hints_111, ↓sModel_hints_112, ↓sModel_hints_114, ↓sModel_hints_116, ↓sModel_hints_117, ↓rf_43_10, ↓sModel_hints_120, ↓sModel_hints_123, ↓sModel_hints_124, ↓sModel_hints_127, ↓sModel_hints_128, ↓sModel_hints_129, ↓sModel_hints_132, ↓sModel_hints_135, ↓sModel_hints_136, ↓sModel_hints_139, ↓sModel_hints_140, ↓sModel_hints_141, ↓sModel_hints_142, ↓sModel_hints_145, ↓sModel_hints_146, ↓sModel_hints_147, ↓sModel_hints_149, ↓sModel_hints_152, ↓sModel_hints_155, ↓sModel_hints_156, ↓sModel_hints_159, ↓sModel_hints_160, ↓sModel_hints_161, ↓sModel_hints_164, ↓sModel_hints_167, ↓sModel_hints_168, ↓sModel_hints_171, ↓sModel_hints_172, ↓rf_43_50, ↓sModel_hints_175, ↓sModel_hints_176, ↓sModel_hints_179, ↓sModel_hints_180, ↓sModel_hints_181, ↓sModel_hints_182, ↓sModel_hints_183, ↓sModel_hints_186, ↓sModel_hints_187, ↓sModel_hints_188, ↓sModel_hints_191, ↓sModel_hints_194, ↓sModel_hints_197, ↓ln_44, ↓ln_63, ↓ln_75, List.set_cons_zero, List.set_cons_succ, List.length_cons, List.length_nil, List.contains_cons, List.contains_nil, cat1, brP_d, true_and, and_true, not_false_eq_true, not_true_eq_false, if_true, if_false, Bool.or_false, Bool.false_or, Bool.or_true, Bool.true_or, Bool.false_eq_true, Bool.or_self, false_implies, true_implies, forall_const, and_self, implies_true, true_or, or_true, or_false, false_or, or_self, Classical.not_not, Int.reduceAdd, Int.reduceSub, Int.reduceMul, Int.reduceNeg, Int.reduceToNat, Int.reduceLT, Int.reduceLE, Int.reduceEq, Int.reduceNe, Int.reduceNatCast', Nat.reduceAdd, Nat.reduceSub, Nat.reduceLeDiff, Nat.reduceLT, Nat.reduceEqDiff, Nat.reduceBEq, reduceIte, nx_w, nx_c, up_n, up_s, up_f, ne_eq, Nat.reduceEqDiff, Option.some.injEq, Prod.mk.injEq, exists_eq_left', reduceCtorEq, ob_43]
        rw [wr_id (x := (w : Int) + 1) (by omega) (by omega)]
        have := ih (w + 1) h (some (.inl 0)) (some (.inl r)) (by push_cast; omega) (by push_cast; omega) h3 (by
          refine ⟨by rw [cntP_n hs]; exact h4.1, fun u hu hp => ?_⟩
          by_cases e : u = w
          · rw [e] at hp; exact absurd hp hs
          · exact h4.2 u (by omega) hp)
        push_cast at this
        exact this
def gdH (g : HP) : Prop := (mN g = 0 ∨ isK g (mW g 0) 0) ∧ ∀ i : Nat, (i : Int) < mN g → ¬ mW g i = -1 ∧ ¬ g 13 (mW g i).toNat = 0
theorem gdH_ak {g : HP} (hC : CI g) (h : gdH g) : mN g = 0 ∨ allK g := by
  have hn := mN_in hC.2.2.2.2
  by_cases z : mN g = 0
  · exact Or.inl z
  · refine Or.inr ⟨by omega, ?_, fun i hi => ⟨?_, (h.2 i hi).2⟩⟩
    · rcases h.1 with y | y
      · exact absurd y z
      · exact y
    · rcases wd_in hC.2.1 (mT g i) with y | y
      · exact absurd y (h.2 i hi).1
      · exact y
theorem gdH_no {g : HP} {v c p x : Int} (hN : CN g) (hv : verdR g (mN g) (fun i => mT g i) (mW g) v c p x) (h : ¬ gdH g) (w : Nat) : ¬ comP g v w := by
  rintro ⟨_, ⟨z, _⟩ | ⟨z, _⟩⟩
  · have := (mN0_v hv).2 z
    exact h ⟨Or.inl this, fun i hi => by omega⟩
  · have ha := (verd_06 hN hv z).1
    exact h ⟨Or.inr ha.2.1, fun i hi => ⟨by have := (ha.2.2 i hi).1; omega, (ha.2.2 i hi).2⟩⟩
set_option maxRecDepth 100000 in
set_option maxHeartbeats 4000000 in
theorem h1_Model_hints (g h : HP) (hC : CI g) (hm : CM g h) (hj : jdG g h) (P : Option AV → HP → Prop) (hX : ∀ s, bP (gdH g) s → Wn Z4 mModel_hints SH0 97 [some (.inr (.inr 43)), some (.inl s), some (.inl 0), none, none] [] h P) : ∀ (d : Nat) (k s : Int), mN g - k < d → 0 ≤ k → k ≤ mN g → ((s = 1 ∧ (mN g = 0 ∨ isK g (mW g 0) 0) ∧ ∀ i : Nat, (i : Int) < k → ¬ mW g i = -1 ∧ ¬ g 13 (mW g i).toNat = 0) ∨ (s = 0 ∧ ¬ gdH g)) → Wn Z4 mModel_hints SH0 48 [some (.inr (.inr 43)), some (.inl s), some (.inl k), none, none] [] h P := by
  have hn := mN_in hC.2.2.2.2
  have h60 := hC.1.2.1
  have e26 := hj.1
  intro d
  induction d with
  | zero => intro k s h1 h2 h3; omega
  | succ d ih =>
    intro k s h1 h2 h3 h4
    rcases h4 with ⟨rfl, z1, z2⟩ | ⟨rfl, z⟩
    · refine go [48,97] 400 (k := ?_)
      simp (config := {maxSteps := 1000000}) only [↓pI_c, ↓pR_c, ↓pJ_c, ↓pV_c, ↓popN_0, ↓popN_s, ↓lI_0, ↓lR_0, ↓lJ_0, ↓lI_s, ↓lR_s, ↓lJ_s, ↓okSt_0, ↓okSt_I, ↓okSt_R, ↓okSt_N, ↓okSt_s, ↓rtI_s, ↓rtV_n, ↓brP_t, ↓brP_f, ↓sModel_hints_0, ↓sModel_hints_1, ↓sModel_hints_4, ↓sModel_hints_5, ↓sModel_hints_6, ↓rf_43_49, ↓sModel_hints_9, ↓sModel_hints_10, ↓rf_43_26, ↓sModel_hints_13, ↓sModel_hints_16, ↓sModel_hints_17, ↓rf_43_28, ↓sModel_hints_20, ↓sModel_hints_21, ↓sModel_hints_22, ↓sModel_hints_23, ↓sModel_hints_26, ↓sModel_hints_27, ↓rf_43_2, ↓sModel_hints_30, ↓sModel_hints_31, ↓sModel_hints_34, ↓sModel_hints_35, ↓sModel_hints_36, ↓sModel_hints_37, ↓sModel_hints_40, ↓sModel_hints_41, ↓sModel_hints_44, ↓sModel_hints_45, ↓sModel_hints_46, ↓sModel_hints_47, ↓sModel_hints_48, ↓sModel_hints_49, ↓sModel_hints_50, ↓sModel_hints_53, ↓sModel_hints_56, ↓sModel_hints_57, ↓sModel_hints_60, ↓sModel_hints_61, ↓sModel_hints_64, ↓sModel_hints_65, ↓sModel_hints_66, ↓sModel_hints_67, ↓sModel_hints_70, ↓sModel_hints_71, ↓sModel_hints_72, ↓sModel_hints_75, ↓sModel_hints_76, ↓sModel_hints_77, ↓sModel_hints_80, ↓sModel_hints_83, ↓sModel_hints_84, ↓sModel_hints_87, ↓sModel_hints_88, ↓sModel_hints_89, ↓sModel_hints_92, ↓sModel_hints_95, ↓sModel_hints_96, ↓sModel_hints_97, ↓sModel_hints_98, ↓sModel_hints_99, ↓rf_43_1, ↓sModel_hints_102, ↓sModel_hints_105, ↓sModel_hints_106, ↓sModel_hints_109, ↓sModel_hints_110, ↓sModel_hints_111, ↓sModel_hints_112, ↓sModel_hints_114, ↓sModel_hints_116, ↓sModel_hints_117, ↓rf_43_10, ↓sModel_hints_120, ↓sModel_hints_123, ↓sModel_hints_124, ↓sModel_hints_127, ↓sModel_hints_128, ↓sModel_hints_129, ↓sModel_hints_132, ↓sModel_hints_135, ↓sModel_hints_136, ↓sModel_hints_139, ↓sModel_hints_140, ↓sModel_hints_141, ↓sModel_hints_142, ↓sModel_hints_145, ↓sModel_hints_146, ↓sModel_hints_147, ↓sModel_hints_149, ↓sModel_hints_152, ↓sModel_hints_155, ↓sModel_hints_156, ↓sModel_hints_159, ↓sModel_hints_160, ↓sModel_hints_161, ↓sModel_hints_164, ↓sModel_hints_167, ↓sModel_hints_168, ↓sModel_hints_171, ↓sModel_hints_172, ↓rf_43_50, ↓sModel_hints_175, ↓sModel_hints_176, ↓sModel_hints_179, ↓sModel_hints_180, ↓sModel_hints_181, ↓sModel_hints_182, ↓sModel_hints_183, ↓sModel_hints_186, ↓sModel_hints_187, ↓sModel_hints_188, ↓sModel_hints_191, ↓sModel_hints_194, ↓sModel_hints_197, ↓ln_44, ↓ln_63, ↓ln_75, List.set_cons_zero, List.set_cons_succ, List.length_cons, List.length_nil, List.contains_cons, List.contains_nil, cat1, brP_d, true_and, and_true, not_false_eq_true, not_true_eq_false, if_true, if_false, Bool.or_false, Bool.false_or, Bool.or_true, Bool.true_or, Bool.false_eq_true, Bool.or_self, false_implies, true_implies, forall_const, and_self, implies_true, true_or, or_true, or_false, false_or, or_self, Classical.not_not, Int.reduceAdd, Int.reduceSub, Int.reduceMul, Int.reduceNeg, Int.reduceToNat, Int.reduceLT, Int.reduceLE, Int.reduceEq, Int.reduceNe, Int.reduceNatCast', Nat.reduceAdd, Nat.reduceSub, Nat.reduceLeDiff, Nat.reduceLT, Nat.reduceEqDiff, Nat.reduceBEq, reduceIte, nx_w, nx_c, up_n, up_s, up_f, ne_eq, Nat.reduceEqDiff, Option.some.injEq, Prod.mk.injEq, exists_eq_left', reduceCtorEq, ob_43, e26]
      refine ⟨fun c1 => hX 1 (Or.inl ⟨rfl, z1, fun i hi => z2 i (by omega)⟩), fun c1 => ?_⟩
      have e63 := (hj.2 k.toNat (by omega)).2
      have no : ¬ gdH g → _ := fun z => ih (k + 1) 0 (by omega) (by omega) (by omega) (Or.inr ⟨rfl, z⟩)
      rw [wr_id (x := k + 1) (by omega) (by omega), e63]
      refine ⟨by omega, fun c2 => no (fun z => (z.2 k.toNat (by omega)).1 c2), fun c2 => ⟨by omega, ?_⟩⟩
      have kw : 0 ≤ mW g k.toNat ∧ mW g k.toNat < g 10 4 := by
        rcases wd_in hC.2.1 (mT g k.toNat) with y | y
        · exact absurd y c2
        · exact y
      refine use_b (t_Model_inScopeG g h hC.1 hm.1 _ kw) (fun hc => ?_) (fun hc => ?_)
      · simp only [one_ne, not_false_eq_true, true_implies, false_implies, true_and, and_true]
        refine ih (k + 1) 1 (by omega) (by omega) (by omega) (Or.inl ⟨rfl, z1, fun i hi => ?_⟩)
        by_cases e : (i : Int) = k
        · rw [show i = k.toNat by omega]; exact ⟨c2, hc⟩
        · exact z2 i (by omega)
      · simp only [not_true_eq_false, true_implies, false_implies, true_and, and_true]
        exact no (fun z => hc (z.2 k.toNat (by omega)).2)
    · refine go [48,97] 400 (k := ?_)
      simp (config := {maxSteps := 1000000}) only [↓pI_c, ↓pR_c, ↓pJ_c, ↓pV_c, ↓popN_0, ↓popN_s, ↓lI_0, ↓lR_0, ↓lJ_0, ↓lI_s, ↓lR_s, ↓lJ_s, ↓okSt_0, ↓okSt_I, ↓okSt_R, ↓okSt_N, ↓okSt_s, ↓rtI_s, ↓rtV_n, ↓brP_t, ↓brP_f, ↓sModel_hints_0, ↓sModel_hints_1, ↓sModel_hints_4, ↓sModel_hints_5, ↓sModel_hints_6, ↓rf_43_49, ↓sModel_hints_9, ↓sModel_hints_10, ↓rf_43_26, ↓sModel_hints_13, ↓sModel_hints_16, ↓sModel_hints_17, ↓rf_43_28, ↓sModel_hints_20, ↓sModel_hints_21, ↓sModel_hints_22, ↓sModel_hints_23, ↓sModel_hints_26, ↓sModel_hints_27, ↓rf_43_2, ↓sModel_hints_30, ↓sModel_hints_31, ↓sModel_hints_34, ↓sModel_hints_35, ↓sModel_hints_36, ↓sModel_hints_37, ↓sModel_hints_40, ↓sModel_hints_41, ↓sModel_hints_44, ↓sModel_hints_45, ↓sModel_hints_46, ↓sModel_hints_47, ↓sModel_hints_48, ↓sModel_hints_49, ↓sModel_hints_50, ↓sModel_hints_53, ↓sModel_hints_56, ↓sModel_hints_57, ↓sModel_hints_60, ↓sModel_hints_61, ↓sModel_hints_64, ↓sModel_hints_65, ↓sModel_hints_66, ↓sModel_hints_67, ↓sModel_hints_70, ↓sModel_hints_71, ↓sModel_hints_72, ↓sModel_hints_75, ↓sModel_hints_76, ↓sModel_hints_77, ↓sModel_hints_80, ↓sModel_hints_83, ↓sModel_hints_84, ↓sModel_hints_87, ↓sModel_hints_88, ↓sModel_hints_89, ↓sModel_hints_92, ↓sModel_hints_95, ↓sModel_hints_96, ↓sModel_hints_97, ↓sModel_hints_98, ↓sModel_hints_99, ↓rf_43_1, ↓sModel_hints_102, ↓sModel_hints_105, ↓sModel_hints_106, ↓sModel_hints_109, ↓sModel_hints_110, ↓sModel_hints_111, ↓sModel_hints_112, ↓sModel_hints_114, ↓sModel_hints_116, ↓sModel_hints_117, ↓rf_43_10, ↓sModel_hints_120, ↓sModel_hints_123, ↓sModel_hints_124, ↓sModel_hints_127, ↓sModel_hints_128, ↓sModel_hints_129, ↓sModel_hints_132, ↓sModel_hints_135, ↓sModel_hints_136, ↓sModel_hints_139, ↓sModel_hints_140, ↓sModel_hints_141, ↓sModel_hints_142, ↓sModel_hints_145, ↓sModel_hints_146, ↓sModel_hints_147, ↓sModel_hints_149, ↓sModel_hints_152, ↓sModel_hints_155, ↓sModel_hints_156, ↓sModel_hints_159, ↓sModel_hints_160, ↓sModel_hints_161, ↓sModel_hints_164, ↓sModel_hints_167, ↓sModel_hints_168, ↓sModel_hints_171, ↓sModel_hints_172, ↓rf_43_50, ↓sModel_hints_175, ↓sModel_hints_176, ↓sModel_hints_179, ↓sModel_hints_180, ↓sModel_hints_181, ↓sModel_hints_182, ↓sModel_hints_183, ↓sModel_hints_186, ↓sModel_hints_187, ↓sModel_hints_188, ↓sModel_hints_191, ↓sModel_hints_194, ↓sModel_hints_197, ↓ln_44, ↓ln_63, ↓ln_75, List.set_cons_zero, List.set_cons_succ, List.length_cons, List.length_nil, List.contains_cons, List.contains_nil, cat1, brP_d, true_and, and_true, not_false_eq_true, not_true_eq_false, if_true, if_false, Bool.or_false, Bool.false_or, Bool.or_true, Bool.true_or, Bool.false_eq_true, Bool.or_self, false_implies, true_implies, forall_const, and_self, implies_true, true_or, or_true, or_false, false_or, or_self, Classical.not_not, Int.reduceAdd, Int.reduceSub, Int.reduceMul, Int.reduceNeg, Int.reduceToNat, Int.reduceLT, Int.reduceLE, Int.reduceEq, Int.reduceNe, Int.reduceNatCast', Nat.reduceAdd, Nat.reduceSub, Nat.reduceLeDiff, Nat.reduceLT, Nat.reduceEqDiff, Nat.reduceBEq, reduceIte, nx_w, nx_c, up_n, up_s, up_f, ne_eq, Nat.reduceEqDiff, Option.some.injEq, Prod.mk.injEq, exists_eq_left', reduceCtorEq, ob_43, e26]
      rw [wr_id (x := k + 1) (by omega) (by omega)]
      exact ⟨fun c1 => hX 0 (Or.inr ⟨rfl, z⟩), fun c1 => ih (k + 1) 0 (by omega) (by omega) (by omega) (Or.inr ⟨rfl, z⟩)⟩
def qHt (g h h' : HP) : Prop := MS h h' ∧ ∃ v c p x, verdR g (mN g) (fun i => mT g i) (mW g) v c p x ∧ hwA (comP g v) (h' 43 49) (h' 75) (g 10 4).toNat
set_option maxRecDepth 100000 in
set_option maxHeartbeats 4000000 in
theorem t_Model_hints (g h : HP) (hC : CI g) (hm : CM g h) : trV mModel_hints [.inr (.inr 43)] SH0 h (qHt g h) := by
  have hn := mN_in hC.2.2.2.2
  have h60 := hC.1.2.1
  have h0w := hC.1.1
  refine startV [some (.inr (.inr 43)), none, none, none, none] mModel_hints_c (go [48] 400 (k := ?_))
  simp (config := {maxSteps := 1000000}) only [↓pI_c, ↓pR_c, ↓pJ_c, ↓pV_c, ↓popN_0, ↓popN_s, ↓lI_0, ↓lR_0, ↓lJ_0, ↓lI_s, ↓lR_s, ↓lJ_s, ↓okSt_0, ↓okSt_I, ↓okSt_R, ↓okSt_N, ↓okSt_s, ↓rtI_s, ↓rtV_n, ↓brP_t, ↓brP_f, ↓sModel_hints_0, ↓sModel_hints_1, ↓sModel_hints_4, ↓sModel_hints_5, ↓sModel_hints_6, ↓rf_43_49, ↓sModel_hints_9, ↓sModel_hints_10, ↓rf_43_26, ↓sModel_hints_13, ↓sModel_hints_16, ↓sModel_hints_17, ↓rf_43_28, ↓sModel_hints_20, ↓sModel_hints_21, ↓sModel_hints_22, ↓sModel_hints_23, ↓sModel_hints_26, ↓sModel_hints_27, ↓rf_43_2, ↓sModel_hints_30, ↓sModel_hints_31, ↓sModel_hints_34, ↓sModel_hints_35, ↓sModel_hints_36, ↓sModel_hints_37, ↓sModel_hints_40, ↓sModel_hints_41, ↓sModel_hints_44, ↓sModel_hints_45, ↓sModel_hints_46, ↓sModel_hints_47, ↓sModel_hints_48, ↓sModel_hints_49, ↓sModel_hints_50, ↓sModel_hints_53, ↓sModel_hints_56, ↓sModel_hints_57, ↓sModel_hints_60, ↓sModel_hints_61, ↓sModel_hints_64, ↓sModel_hints_65, ↓sModel_hints_66, ↓sModel_hints_67, ↓sModel_hints_70, ↓sModel_hints_71, ↓sModel_hints_72, ↓sModel_hints_75, ↓sModel_hints_76, ↓sModel_hints_77, ↓sModel_hints_80, ↓sModel_hints_83, ↓sModel_hints_84, ↓sModel_hints_87, ↓sModel_hints_88, ↓sModel_hints_89, ↓sModel_hints_92, ↓sModel_hints_95, ↓sModel_hints_96, ↓sModel_hints_97, ↓sModel_hints_98, ↓sModel_hints_99, ↓rf_43_1, ↓sModel_hints_102, ↓sModel_hints_105, ↓sModel_hints_106, ↓sModel_hints_109, ↓sModel_hints_110, ↓sModel_hints_111, ↓sModel_hints_112, ↓sModel_hints_114, ↓sModel_hints_116, ↓sModel_hints_117, ↓rf_43_10, ↓sModel_hints_120, ↓sModel_hints_123, ↓sModel_hints_124, ↓sModel_hints_127, ↓sModel_hints_128, ↓sModel_hints_129, ↓sModel_hints_132, ↓sModel_hints_135, ↓sModel_hints_136, ↓sModel_hints_139, ↓sModel_hints_140, ↓sModel_hints_141, ↓sModel_hints_142, ↓sModel_hints_145, ↓sModel_hints_146, ↓sModel_hints_147, ↓sModel_hints_149, ↓sModel_hints_152, ↓sModel_hints_155, ↓sModel_hints_156, ↓sModel_hints_159, ↓sModel_hints_160, ↓sModel_hints_161, ↓sModel_hints_164, ↓sModel_hints_167, ↓sModel_hints_168, ↓sModel_hints_171, ↓sModel_hints_172, ↓rf_43_50, ↓sModel_hints_175, ↓sModel_hints_176, ↓sModel_hints_179, ↓sModel_hints_180, ↓sModel_hints_181, ↓sModel_hints_182, ↓sModel_hints_183, ↓sModel_hints_186, ↓sModel_hints_187, ↓sModel_hints_188, ↓sModel_hints_191, ↓sModel_hints_194, ↓sModel_hints_197, ↓ln_44, ↓ln_63, ↓ln_75, List.set_cons_zero, List.set_cons_succ, List.length_cons, List.length_nil, List.contains_cons, List.contains_nil, cat1, brP_d, true_and, and_true, not_false_eq_true, not_true_eq_false, if_true, if_false, Bool.or_false, Bool.false_or, Bool.or_true, Bool.true_or, Bool.false_eq_true, Bool.or_self, false_implies, true_implies, forall_const, and_self, implies_true, true_or, or_true, or_false, false_or, or_self, Classical.not_not, Int.reduceAdd, Int.reduceSub, Int.reduceMul, Int.reduceNeg, Int.reduceToNat, Int.reduceLT, Int.reduceLE, Int.reduceEq, Int.reduceNe, Int.reduceNatCast', Nat.reduceAdd, Nat.reduceSub, Nat.reduceLeDiff, Nat.reduceLT, Nat.reduceEqDiff, Nat.reduceBEq, reduceIte, nx_w, nx_c, up_n, up_s, up_f, ne_eq, Nat.reduceEqDiff, Option.some.injEq, Prod.mk.injEq, exists_eq_left', reduceCtorEq, ob_43]
  refine trV_use (t_Model_judge g h hC hm) ?_
  rintro h1 ⟨q1, q2, q3, q4, p, x, q5⟩
  have hm1 : CM g (up h1 43 49 0) := (hm.ms q1).ms (MS.ht (htFu htF.rf))
  have hj1 : jdG g (up h1 43 49 0) := jdG.ht (htFu htF.rf) ⟨q3, q4⟩
  have f1 : MS h (up h1 43 49 0) := q1.tr (MS.ht (htFu htF.rf))
  have e49 : up h1 43 49 0 43 49 = 0 := up_s
  obtain ⟨h2, hh2⟩ : ∃ h2, up h1 43 49 0 = h2 := ⟨_, rfl⟩
  rw [hh2] at hm1 hj1 f1 e49
  have x97 : ∀ s, bP (gdH g) s → Wn Z4 mModel_hints SH0 97 [some (.inr (.inr 43)), some (.inl s), some (.inl 0), none, none] [] h2 (rtV (qHt g h)) := by
    rintro s (⟨rfl, hs⟩ | ⟨rfl, hs⟩)
    · have lp := h2_Model_hints g h2 hC hm1 hj1 (gdH_ak hC hs) _ _ _ _ q5 ((g 10 4).toNat + 1) 0 h2 none none (by push_cast; omega) (by push_cast; omega) htF.rf ⟨e49, fun u hu => absurd hu (Nat.not_lt_zero u)⟩
      refine Wt.mono ?_ lp
      rintro v sh' h5 ⟨rfl, hv'⟩
      refine ⟨rfl, ?_⟩
      obtain ⟨rfl, k1, k2⟩ := rtV_ex hv'
      exact ⟨f1.tr (MS.ht k1), _, _, _, _, q5, k2⟩
    · have e1 : h2 43 1 = g 10 4 := hm1.1.1
      have nc := gdH_no hC.2.1 q5 hs
      have fin : qHt g h h2 := ⟨f1, _, _, _, _, q5, by rw [cntP_0 nc]; exact e49, fun u _ hp => absurd hp (nc u)⟩
      refine go [9999] 400 (k := ?_)
      simp (config := {maxSteps := 1000000}) only [↓pI_c, ↓pR_c, ↓pJ_c, ↓pV_c, ↓popN_0, ↓popN_s, ↓lI_0, ↓lR_0, ↓lJ_0, ↓lI_s, ↓lR_s, ↓lJ_s, ↓okSt_0, ↓okSt_I, ↓okSt_R, ↓okSt_N, ↓okSt_s, ↓rtI_s, ↓rtV_n, ↓brP_t, ↓brP_f, ↓sModel_hints_0, ↓sModel_hints_1, ↓sModel_hints_4, ↓sModel_hints_5, ↓sModel_hints_6, ↓rf_43_49, ↓sModel_hints_9, ↓sModel_hints_10, ↓rf_43_26, ↓sModel_hints_13, ↓sModel_hints_16, ↓sModel_hints_17, ↓rf_43_28, ↓sModel_hints_20, ↓sModel_hints_21, ↓sModel_hints_22, ↓sModel_hints_23, ↓sModel_hints_26, ↓sModel_hints_27, ↓rf_43_2, ↓sModel_hints_30, ↓sModel_hints_31, ↓sModel_hints_34, ↓sModel_hints_35, ↓sModel_hints_36, ↓sModel_hints_37, ↓sModel_hints_40, ↓sModel_hints_41, ↓sModel_hints_44, ↓sModel_hints_45, ↓sModel_hints_46, ↓sModel_hints_47, ↓sModel_hints_48, ↓sModel_hints_49, ↓sModel_hints_50, ↓sModel_hints_53, ↓sModel_hints_56, ↓sModel_hints_57, ↓sModel_hints_60, ↓sModel_hints_61, ↓sModel_hints_64, ↓sModel_hints_65, ↓sModel_hints_66, ↓sModel_hints_67, ↓sModel_hints_70, ↓sModel_hints_71, ↓sModel_hints_72, ↓sModel_hints_75, ↓sModel_hints_76, ↓sModel_hints_77, ↓sModel_hints_80, ↓sModel_hints_83, ↓sModel_hints_84, ↓sModel_hints_87, ↓sModel_hints_88, ↓sModel_hints_89, ↓sModel_hints_92, ↓sModel_hints_95, ↓sModel_hints_96, ↓sModel_hints_97, ↓sModel_hints_98, ↓sModel_hints_99, ↓rf_43_1, ↓sModel_hints_102, ↓sModel_hints_105, ↓sModel_hints_106, ↓sModel_hints_109, ↓sModel_hints_110, ↓sModel_hints_111, ↓sModel_hints_112, ↓sModel_hints_114, ↓sModel_hints_116, ↓sModel_hints_117, ↓rf_43_10, ↓sModel_hints_120, ↓sModel_hints_123, ↓sModel_hints_124, ↓sModel_hints_127, ↓sModel_hints_128, ↓sModel_hints_129, ↓sModel_hints_132, ↓sModel_hints_135, ↓sModel_hints_136, ↓sModel_hints_139, ↓sModel_hints_140, ↓sModel_hints_141, ↓sModel_hints_142, ↓sModel_hints_145, ↓sModel_hints_146, ↓sModel_hints_147, ↓sModel_hints_149, ↓sModel_hints_152, ↓sModel_hints_155, ↓sModel_hints_156, ↓sModel_hints_159, ↓sModel_hints_160, ↓sModel_hints_161, ↓sModel_hints_164, ↓sModel_hints_167, ↓sModel_hints_168, ↓sModel_hints_171, ↓sModel_hints_172, ↓rf_43_50, ↓sModel_hints_175, ↓sModel_hints_176, ↓sModel_hints_179, ↓sModel_hints_180, ↓sModel_hints_181, ↓sModel_hints_182, ↓sModel_hints_183, ↓sModel_hints_186, ↓sModel_hints_187, ↓sModel_hints_188, ↓sModel_hints_191, ↓sModel_hints_194, ↓sModel_hints_197, ↓ln_44, ↓ln_63, ↓ln_75, List.set_cons_zero, List.set_cons_succ, List.length_cons, List.length_nil, List.contains_cons, List.contains_nil, cat1, brP_d, true_and, and_true, not_false_eq_true, not_true_eq_false, if_true, if_false, Bool.or_false, Bool.false_or, Bool.or_true, Bool.true_or, Bool.false_eq_true, Bool.or_self, false_implies, true_implies, forall_const, and_self, implies_true, true_or, or_true, or_false, false_or, or_self, Classical.not_not, Int.reduceAdd, Int.reduceSub, Int.reduceMul, Int.reduceNeg, Int.reduceToNat, Int.reduceLT, Int.reduceLE, Int.reduceEq, Int.reduceNe, Int.reduceNatCast', Nat.reduceAdd, Nat.reduceSub, Nat.reduceLeDiff, Nat.reduceLT, Nat.reduceEqDiff, Nat.reduceBEq, reduceIte, nx_w, nx_c, up_n, up_s, up_f, ne_eq, Nat.reduceEqDiff, Option.some.injEq, Prod.mk.injEq, exists_eq_left', reduceCtorEq, ob_43, e1]
      exact ⟨fun _ => fin, fun _ => fin⟩
  have lp := h1_Model_hints g h2 hC hm1 hj1 _ x97 ((mN g).toNat + 1) 0
  have e26 := hj1.1
  have a26 : h1 43 26 = mN g := q3
  simp only [hh2, a26, e26]
  refine ⟨fun c1 => lp 1 (by omega) (by omega) (by omega) (Or.inl ⟨rfl, Or.inl c1, fun i hi => by omega⟩), fun c1 => ?_⟩
  have e63 := (q4 0 (by omega)).2
  rw [e63]
  refine ⟨fun c2 => lp 0 (by omega) (by omega) (by omega) (Or.inr ⟨rfl, fun z => (z.2 0 (by omega)).1 c2⟩), fun c2 => ?_⟩
  have kw : 0 ≤ mW g 0 ∧ mW g 0 < g 10 4 := by
    rcases wd_in hC.2.1 (mT g 0) with y | y
    · exact absurd y c2
    · exact y
  have e44 : h1 44 (mW g 0).toNat = g 11 (mW g 0).toNat := ((hm.ms q1).1.2 (mW g 0).toNat (by omega)).1
  rw [e44]
  refine ⟨by omega, fun c3 => lp 0 (by omega) (by omega) (by omega) (Or.inr ⟨rfl, fun z => ?_⟩), fun c3 => lp 1 (by omega) (by omega) (by omega) (Or.inl ⟨rfl, Or.inr ⟨kw.1, kw.2, c3⟩, fun i hi => by omega⟩)⟩
  rcases z.1 with y | y
  · exact c1 y
  · exact c3 y.2.2
set_option maxRecDepth 100000 in
set_option maxHeartbeats 4000000 in
theorem t_Model_hint (g h : HP) (hC : CI g) (hm : CM g h) (i : Int) : trI mModel_hint [.inr (.inr 43), .inl i] SH0 h (roM (sHint i g) h) := by
  have h60 := hC.1.2.1
  have h0w := hC.1.1
  refine startI [some (.inr (.inr 43)), some (.inl i)] mModel_hint_c (go [9999] 400 (k := ?_))
  simp (config := {maxSteps := 1000000}) only [↓pI_c, ↓pR_c, ↓pJ_c, ↓pV_c, ↓popN_0, ↓popN_s, ↓lI_0, ↓lR_0, ↓lJ_0, ↓lI_s, ↓lR_s, ↓lJ_s, ↓okSt_0, ↓okSt_I, ↓okSt_R, ↓okSt_N, ↓okSt_s, ↓rtI_s, ↓rtV_n, ↓brP_t, ↓brP_f, ↓sModel_hint_0, ↓sModel_hint_1, ↓sModel_hint_2, ↓rf_43_0, ↓sModel_hint_5, ↓sModel_hint_6, ↓sModel_hint_9, ↓sModel_hint_10, ↓sModel_hint_11, ↓sModel_hint_12, ↓rf_43_49, ↓sModel_hint_15, ↓sModel_hint_16, ↓sModel_hint_17, ↓sModel_hint_20, ↓sModel_hint_23, ↓sModel_hint_24, ↓rf_43_50, ↓sModel_hint_27, ↓sModel_hint_28, ↓sModel_hint_29, ↓sModel_hint_32, ↓sModel_hint_34, ↓ln_75, List.set_cons_zero, List.set_cons_succ, List.length_cons, List.length_nil, List.contains_cons, List.contains_nil, cat1, brP_d, true_and, and_true, not_false_eq_true, not_true_eq_false, if_true, if_false, Bool.or_false, Bool.false_or, Bool.or_true, Bool.true_or, Bool.false_eq_true, Bool.or_self, false_implies, true_implies, forall_const, and_self, implies_true, true_or, or_true, or_false, false_or, or_self, Classical.not_not, Int.reduceAdd, Int.reduceSub, Int.reduceMul, Int.reduceNeg, Int.reduceToNat, Int.reduceLT, Int.reduceLE, Int.reduceEq, Int.reduceNe, Int.reduceNatCast', Nat.reduceAdd, Nat.reduceSub, Nat.reduceLeDiff, Nat.reduceLT, Nat.reduceEqDiff, Nat.reduceBEq, reduceIte, nx_w, nx_c, up_n, up_s, up_f, ne_eq, Nat.reduceEqDiff, Option.some.injEq, Prod.mk.injEq, exists_eq_left', reduceCtorEq, ob_43]
  refine trV_use (t_Model_hints g _ hC (hm.ms msu0)) ?_
  rintro h1 ⟨q1, v, c, p, x, q2, q3, q4⟩
  have hms : MS h h1 := msu0.tr q1
  have hin := cntP_in (comP g v) (g 10 4).toNat
  rw [q3, wr_id (x := cntP (comP g v) (g 10 4).toNat - 1) (by omega) (by omega)]
  refine use_in (fun e1 => ?_) (fun e1 => ?_)
  · simp only [one_ne, not_false_eq_true, true_implies, false_implies, true_and]
    obtain ⟨w, w1, w2, w3⟩ := cntP_ex (comP g v) (g 10 4).toNat i e1.1 (by omega)
    refine ⟨by omega, hms, _, _, _, _, q2, Or.inl ⟨w, by omega, w2, w3, ?_⟩⟩
    rw [← w3]
    exact q4 w w1 w2
  · simp only [not_true_eq_false, true_implies, false_implies, and_true]
    refine ⟨hms, _, _, _, _, q2, Or.inr ⟨fun w hw hp he => ?_, rfl⟩⟩
    have := cntP_lt (show w < (g 10 4).toNat by omega) hp
    have := cntP_in (comP g v) w
    omega
