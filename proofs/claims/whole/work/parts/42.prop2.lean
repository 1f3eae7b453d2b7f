/-! proposals: the class's update and proposal -/
set_option maxRecDepth 100000 in
set_option maxHeartbeats 4000000 in
theorem t_Words_isSeen (h : HP) (w : Int) (hw : 0 ≤ w ∧ w < 60) : trI mWords_isSeen [.inr (.inr 10), .inl w] SH0 h (fun r h' => h' = h ∧ bP (seenW h w.toNat) r) := by
  refine startI [some (.inr (.inr 10)), some (.inl w)] mWords_isSeen_c (go [9999] 400 (k := ?_))
  simp (config := {maxSteps := 1000000}) only [↓pI_c, ↓pR_c, ↓pJ_c, ↓pV_c, ↓popN_0, ↓popN_s, ↓lI_0, ↓lR_0, ↓lJ_0, ↓lI_s, ↓lR_s, ↓lJ_s, ↓okSt_0, ↓okSt_I, ↓okSt_R, ↓okSt_N, ↓okSt_s, ↓rtI_s, ↓rtV_n, ↓brP_t, ↓brP_f, ↓sWords_isSeen_0, ↓sWords_isSeen_1, ↓rf_10_0, ↓sWords_isSeen_4, ↓sWords_isSeen_5, ↓sWords_isSeen_6, ↓sWords_isSeen_7, ↓sWords_isSeen_10, ↓sWords_isSeen_11, ↓rf_10_2, ↓sWords_isSeen_14, ↓sWords_isSeen_15, ↓sWords_isSeen_16, ↓sWords_isSeen_19, ↓sWords_isSeen_20, ↓sWords_isSeen_23, ↓sWords_isSeen_24, ↓ln_11, ↓ln_13, List.set_cons_zero, List.set_cons_succ, List.length_cons, List.length_nil, List.contains_cons, List.contains_nil, cat1, brP_d, true_and, and_true, not_false_eq_true, not_true_eq_false, if_true, if_false, Bool.or_false, Bool.false_or, Bool.or_true, Bool.true_or, Bool.false_eq_true, Bool.or_self, false_implies, true_implies, forall_const, and_self, implies_true, true_or, or_true, or_false, false_or, or_self, Classical.not_not, Int.reduceAdd, Int.reduceSub, Int.reduceMul, Int.reduceNeg, Int.reduceToNat, Int.reduceLT, Int.reduceLE, Int.reduceEq, Int.reduceNe, Int.reduceNatCast', Nat.reduceAdd, Nat.reduceSub, Nat.reduceLeDiff, Nat.reduceLT, Nat.reduceEqDiff, Nat.reduceBEq, reduceIte, nx_w, nx_c, up_n, up_s, up_f, ne_eq, Nat.reduceEqDiff, Option.some.injEq, Prod.mk.injEq, exists_eq_left', reduceCtorEq]
  simp only [bP, seenW]
  grind
theorem nnP_congr {h h' : HP} (e : ∀ a, a < 24 → h' a = h a) {w : Int} {k : Nat} {n x d : Int} : nnP h' w k n x d ↔ nnP h w k n x d := by
  unfold nnP
  simp only [dN_congr (e 4 (by decide)) (e 5 (by decide)) (e 7 (by decide)) (e 8 (by decide)) (e 21 (by decide)) (e 22 (by decide)) (e 23 (by decide))]
  rw [e 9 (by decide)]
def ppF (h0 h : HP) : Prop := (∀ a, a < 27 ∨ 33 ≤ a → h a = h0 a) ∧ ∀ b, b ≠ 5 → h 27 b = h0 27 b
theorem ppF.rf {h : HP} : ppF h h := ⟨fun _ _ => rfl, fun _ _ => rfl⟩
theorem ppF.tr {a b c : HP} (h1 : ppF a b) (h2 : ppF b c) : ppF a c := ⟨fun k hk => (h2.1 k hk).trans (h1.1 k hk), fun k hk => (h2.2 k hk).trans (h1.2 k hk)⟩
theorem ppF.kf {a b : HP} (h1 : ppF a b) : KF a b := fun k hk => h1.1 k (by omega)
theorem rdG.pp {g h h' : HP} (hp : ppF h h') (hr : rdG g h) : rdG g h' := by
  unfold rdG at *
  rw [hp.1 24 (by decide), hp.1 25 (by decide), hp.1 26 (by decide)]
  exact hr
def qPr (g : HP) (v m : Int) (fw fd ff : Nat → Int) : Prop := (v = 3 ∧ g 4 7 = 1 ∧ ∃ q : Nat, u3 g q ∧ prA m fw fd ff (prS g q (g 10 4).toNat)) ∨ (¬ (v = 3 ∧ g 4 7 = 1) ∧ m = 0)
set_option maxRecDepth 100000 in
set_option maxHeartbeats 4000000 in
theorem t_Prop_consider (g h : HP) (hC : CI g) (hk : KF g h) (hr : rdG g h) (q w : Nat) (hu : u3 g q) (h9 : h 24 9 = q) (h8 : h 24 8 = mT g q) (hw : (w : Int) < g 10 4) (hsn : seenW g w) (hp : prA (h 27 5) (h 30) (h 31) (h 32) (prS g q w)) : trV mProp_consider [.inr (.inr 27), .inl w] SH0 h (fun h' => ppF h h' ∧ prA (h' 27 5) (h' 30) (h' 31) (h' 32) (prS g q (w + 1))) := by
  have hC' := CI.kf hk hC
  have hL := hC.2.2.2.2
  have h60 := hC.1.2.1
  have hmT := (mT_in hu.1 hL.2.2.2.1.1).1
  have h10 := hL.2.2.2.1.2.1
  have gg : ∀ a, a < 24 → h a = g a := fun a ha => hk a (Or.inl ha)
  have hty := ty_in hC'.2.2.2.2 (k := mT g q) (by rw [gg 19 (by decide)]; exact hmT)
  have hty' := ty_in hL hmT
  have e8 : ((mT g q : Nat) : Int).toNat = mT g q := by omega
  have hple := prS_le g q w
  have hps := prS_s g q w
  refine startV [some (.inr (.inr 27)), some (.inl w), none, none, none, none, none] mProp_consider_c (go [9999] 400 (k := ?_))
  simp (config := {maxSteps := 1000000}) only [↓pI_c, ↓pR_c, ↓pJ_c, ↓pV_c, ↓popN_0, ↓popN_s, ↓lI_0, ↓lR_0, ↓lJ_0, ↓lI_s, ↓lR_s, ↓lJ_s, ↓okSt_0, ↓okSt_I, ↓okSt_R, ↓okSt_N, ↓okSt_s, ↓rtI_s, ↓rtV_n, ↓brP_t, ↓brP_f, ↓sProp_consider_0, ↓sProp_consider_1, ↓rf_27_0, ↓sProp_consider_4, ↓rf_24_8, ↓sProp_consider_7, ↓sProp_consider_8, ↓sProp_consider_9, ↓rf_27_1, ↓sProp_consider_12, ↓sProp_consider_13, ↓sProp_consider_14, ↓sProp_consider_17, ↓rf_24_0, ↓sProp_consider_20, ↓sProp_consider_21, ↓sProp_consider_24, ↓sProp_consider_25, ↓sProp_consider_26, ↓sProp_consider_27, ↓sProp_consider_30, ↓sProp_consider_31, ↓sProp_consider_32, ↓sProp_consider_35, ↓rf_28_0, ↓rf_41_0, ↓sProp_consider_38, ↓rf_3_0, ↓sProp_consider_41, ↓sProp_consider_43, ↓sProp_consider_44, ↓sProp_consider_47, ↓rf_28_5, ↓rf_41_5, ↓sProp_consider_50, ↓sProp_consider_52, ↓sProp_consider_53, ↓sProp_consider_56, ↓sProp_consider_59, ↓rf_19_3, ↓sProp_consider_62, ↓sProp_consider_63, ↓sProp_consider_64, ↓sProp_consider_66, ↓sProp_consider_67, ↓sProp_consider_68, ↓sProp_consider_69, ↓sProp_consider_70, ↓sProp_consider_73, ↓rf_24_1, ↓sProp_consider_76, ↓rf_6_1, ↓sProp_consider_79, ↓sProp_consider_80, ↓sProp_consider_81, ↓sProp_consider_83, ↓sProp_consider_84, ↓sProp_consider_85, ↓sProp_consider_86, ↓sProp_consider_87, ↓sProp_consider_89, ↓sProp_consider_91, ↓sProp_consider_93, ↓sProp_consider_94, ↓sProp_consider_95, ↓sProp_consider_98, ↓sProp_consider_100, ↓sProp_consider_102, ↓sProp_consider_105, ↓sProp_consider_106, ↓sProp_consider_107, ↓sProp_consider_109, ↓sProp_consider_110, ↓sProp_consider_113, ↓sProp_consider_114, ↓sProp_consider_117, ↓sProp_consider_120, ↓ln_4, ↓ln_8, ↓ln_23, List.set_cons_zero, List.set_cons_succ, List.length_cons, List.length_nil, List.contains_cons, List.contains_nil, cat1, brP_d, true_and, and_true, not_false_eq_true, not_true_eq_false, if_true, if_false, Bool.or_false, Bool.false_or, Bool.or_true, Bool.true_or, Bool.false_eq_true, Bool.or_self, false_implies, true_implies, forall_const, and_self, implies_true, true_or, or_true, or_false, false_or, or_self, Classical.not_not, Int.reduceAdd, Int.reduceSub, Int.reduceMul, Int.reduceNeg, Int.reduceToNat, Int.reduceLT, Int.reduceLE, Int.reduceEq, Int.reduceNe, Int.reduceNatCast', Nat.reduceAdd, Nat.reduceSub, Nat.reduceLeDiff, Nat.reduceLT, Nat.reduceEqDiff, Nat.reduceBEq, reduceIte, nx_w, nx_c, up_n, up_s, up_f, ne_eq, Nat.reduceEqDiff, Option.some.injEq, Prod.mk.injEq, exists_eq_left', reduceCtorEq, ob_28, ob_41, ob_24, ob_27, h8]
  refine trI_use (t_Table_nearestName28 h w (mT g q) hC'.2.2.2.1 hC'.2.1 hty (by omega)) ?_
  rintro x h1 ⟨f1, f2⟩
  rw [nnP_congr gg, gg 6 (by decide)] at f2
  obtain ⟨n1, n2, n3⟩ := nn_some hC.2.1 f2 (by omega)
  have nnm := nm_in hC.2.1 (n := x.toNat) (by omega)
  have gh : ∀ a, a ≠ 28 → a ≠ 29 → h1 a = h a := f1.1
  have g1 : ∀ a, a < 24 → h1 a = g a := fun a ha => by rw [gh a (by omega) (by omega)]; exact gg a ha
  have ppf : ppF h h1 := ⟨fun a ha => gh a (by omega) (by omega), fun b hb => by rw [gh 27 (by decide) (by decide)]⟩
  have hs := CS_okS hC.2.2.2.1
  obtain ⟨s0, s1, s2, s3, s4⟩ := hs
  have m0 := mul_in (i := (g 23 (mT g q)).toNat) s0
  have m1 := mul_in (i := (g 8 x.toNat).toNat) s1
  have t1 := hty'.1
  have t2 := nnm.1
  have l23 : g 23 (mT g q) ≤ 92 := by omega
  rw [show (((g 23 (mT g q)).toNat : Nat) : Int) = g 23 (mT g q) by omega] at m0
  rw [show (((g 8 x.toNat).toNat : Nat) : Int) = g 8 x.toNat by omega] at m1
  have hxn : ¬ x = -1 := by omega
  have skip : ¬ candW g q w → prA (h1 27 5) (h1 30) (h1 31) (h1 32) (prS g q (w + 1)) := by
    intro hc
    rcases hps with ⟨c, _⟩ | ⟨_, e⟩
    · exact absurd c hc
    · rw [e, gh 27 (by decide) (by decide), gh 30 (by decide) (by decide), gh 31 (by decide) (by decide), gh 32 (by decide) (by decide)]
      exact hp
  simp only [hxn, not_false_eq_true, true_implies, false_implies, true_and, and_true, e8, g1 4 (by decide), g1 8 (by decide), g1 23 (by decide)]
  rw [wr_id (x := g 23 (mT g q) * g 4 0) (by omega) (by omega), wr_id (x := g 8 x.toNat * g 4 1) (by omega) (by omega), wr_id (x := g 23 (mT g q) * g 4 0 + g 8 x.toNat * g 4 1) (by omega) (by omega)]
  rw [n3]
  have en : x = nq g (mT g q) w := n2
  refine ⟨by omega, by omega, fun c1 => ⟨ppf, skip (fun z => by have := z.2.1; omega)⟩, fun c1 => ⟨fun c2 => ⟨ppf, skip (fun z => by have := z.2.2; rw [← en] at this; rw [← en] at c2; omega)⟩, fun c2 => ?_⟩⟩
  have cand : candW g q w := ⟨hsn, by omega, by rw [← en]; rw [← en] at c2; omega⟩
  refine use_p (t_Read_wouldFit g h1 hC (hk.tr ppf.kf) (hr.pp ppf) q w hu (by rw [gh 24 (by decide) (by decide)]; exact h9) hw) ?_
  refine trV_use (t_Prop_insert h1 w _ _ (prS g q w) (wfI_b g q w) (by rw [gh 27 (by decide) (by decide), gh 30 (by decide) (by decide), gh 31 (by decide) (by decide), gh 32 (by decide) (by decide)]; exact hp) (prS_b g q w) (by omega)) ?_
  rintro h2 ⟨⟨p1, p2⟩, p3⟩
  refine ⟨ppf.tr ⟨fun a ha => p1 a (by omega) (by omega) (by omega) (by omega), p2⟩, ?_⟩
  rcases hps with ⟨_, e⟩ | ⟨c, _⟩
  · rw [e]; exact p3
  · exact absurd cand c
set_option maxRecDepth 100000 in
set_option maxHeartbeats 4000000 in
theorem l_Prop_update (g h0 : HP) (hC : CI g) (hk : KF g h0) (hr : rdG g h0) (q : Nat) (hu : u3 g q) (h9 : h0 24 9 = q) (h8 : h0 24 8 = mT g q) : ∀ (d w : Nat) (h : HP), g 10 4 - w < d → (w : Int) ≤ g 10 4 → ppF h0 h → prA (h 27 5) (h 30) (h 31) (h 32) (prS g q w) → Wn Z4 mProp_update SH0 36 [some (.inr (.inr 27)), some (.inl w)] [] h (rtV (fun h' => ppF h0 h' ∧ prA (h' 27 5) (h' 30) (h' 31) (h' 32) (prS g q (g 10 4).toNat))) := by
  intro d
  induction d with
  | zero => intro w h h1 h2; omega
  | succ d ih =>
    intro w h h1 h2 h3 h4
    have h60 := hC.1.2.1
    have e10 : h 10 = g 10 := by rw [h3.1 10 (by decide)]; exact hk 10 (by decide)
    have hkk := hk.tr h3.kf
    have es : seenW h w ↔ seenW g w := by
      unfold seenW
      rw [hkk 11 (by decide), hkk 13 (by decide)]
    have nx : ¬ g 10 4 ≤ (w : Int) → ∀ h', ppF h0 h' → prA (h' 27 5) (h' 30) (h' 31) (h' 32) (prS g q (w + 1)) → Wn Z4 mProp_update SH0 36 [some (.inr (.inr 27)), some (.inl (wr (w + 1)))] [] h' (rtV (fun h' => ppF h0 h' ∧ prA (h' 27 5) (h' 30) (h' 31) (h' 32) (prS g q (g 10 4).toNat))) := by
      intro z h' a1 a2
      rw [wr_id (x := (w : Int) + 1) (by omega) (by omega)]
      have := ih (w + 1) h' (by push_cast; omega) (by push_cast; omega) a1 a2
      push_cast at this
      exact this
    refine go [36] 400 (k := ?_)
    simp (config := {maxSteps := 1000000}) only [↓pI_c, ↓pR_c, ↓pJ_c, ↓pV_c, ↓popN_0, ↓popN_s, ↓lI_0, ↓lR_0, ↓lJ_0, ↓lI_s, ↓lR_s, ↓lJ_s, ↓okSt_0, ↓okSt_I, ↓okSt_R, ↓okSt_N, ↓okSt_s, ↓rtI_s, ↓rtV_n, ↓brP_t, ↓brP_f, ↓sProp_update_0, ↓sProp_update_1, ↓sProp_update_2, ↓rf_27_5, ↓sProp_update_5, ↓sProp_update_6, ↓rf_27_0, ↓sProp_update_9, ↓rf_24_7, ↓sProp_update_12, ↓sProp_update_13, ↓sProp_update_16, ↓sProp_update_17, ↓rf_27_1, ↓sProp_update_20, ↓rf_28_0, ↓rf_41_0, ↓sProp_update_23, ↓rf_3_0, ↓sProp_update_26, ↓sProp_update_28, ↓sProp_update_29, ↓sProp_update_30, ↓sProp_update_33, ↓sProp_update_34, ↓sProp_update_35, ↓sProp_update_36, ↓sProp_update_37, ↓sProp_update_38, ↓sProp_update_41, ↓rf_24_2, ↓sProp_update_44, ↓rf_10_4, ↓sProp_update_47, ↓sProp_update_50, ↓sProp_update_51, ↓sProp_update_54, ↓sProp_update_57, ↓sProp_update_58, ↓sProp_update_61, ↓sProp_update_64, ↓sProp_update_65, ↓sProp_update_66, ↓sProp_update_69, ↓sProp_update_72, ↓sProp_update_75, ↓ln_4, List.set_cons_zero, List.set_cons_succ, List.length_cons, List.length_nil, List.contains_cons, List.contains_nil, cat1, brP_d, true_and, and_true, not_false_eq_true, not_true_eq_false, if_true, if_false, Bool.or_false, Bool.false_or, Bool.or_true, Bool.true_or, Bool.false_eq_true, Bool.or_self, false_implies, true_implies, forall_const, and_self, implies_true, true_or, or_true, or_false, false_or, or_self, Classical.not_not, Int.reduceAdd, Int.reduceSub, Int.reduceMul, Int.reduceNeg, Int.reduceToNat, Int.reduceLT, Int.reduceLE, Int.reduceEq, Int.reduceNe, Int.reduceNatCast', Nat.reduceAdd, Nat.reduceSub, Nat.reduceLeDiff, Nat.reduceLT, Nat.reduceEqDiff, Nat.reduceBEq, reduceIte, nx_w, nx_c, up_n, up_s, up_f, ne_eq, Nat.reduceEqDiff, Option.some.injEq, Prod.mk.injEq, exists_eq_left', reduceCtorEq, ob_10, ob_27, e10]
    refine ⟨fun h5 => ?_, fun h5 => ?_⟩
    · rw [show (g 10 4).toNat = w by omega]
      exact ⟨h3, h4⟩
    · refine use_b (t_Words_isSeen h w (by omega)) (fun hs => ?_) (fun hs => ?_)
      · simp only [one_ne, not_false_eq_true, true_implies, false_implies, true_and, and_true]
        rw [show ((w : Int)).toNat = w by omega, es] at hs
        refine trV_use (t_Prop_consider g h hC hkk (hr.pp h3) q w hu (by rw [h3.1 24 (by decide)]; exact h9) (by rw [h3.1 24 (by decide)]; exact h8) (by omega) hs h4) ?_
        rintro h' ⟨a1, a2⟩
        exact nx h5 h' (h3.tr a1) a2
      · simp only [not_true_eq_false, true_implies, false_implies, true_and, and_true]
        rw [show ((w : Int)).toNat = w by omega, es] at hs
        refine nx h5 h h3 ?_
        rcases prS_s g q w with ⟨c, _⟩ | ⟨_, e⟩
        · exact absurd c.1 hs
        · rw [e]; exact h4
def qPU (g h0 h : HP) : Prop := ppF h0 h ∧ qPr g (h0 24 7) (h 27 5) (h 30) (h 31) (h 32)
set_option maxRecDepth 100000 in
set_option maxHeartbeats 4000000 in
theorem t_Prop_update (g h : HP) (hC : CI g) (hk : KF g h) (hr : rdG g h) : trV mProp_update [.inr (.inr 27)] SH0 h (qPU g h) := by
  have e4 : h 4 = g 4 := hk 4 (by decide)
  have z : ppF h (up h 27 5 0) := ⟨fun a ha => up_ne (by omega), fun b hb => up_f hb⟩
  have e5 : up h 27 5 0 27 5 = 0 := up_s
  refine startV [some (.inr (.inr 27)), none] mProp_update_c (go [36] 400 (k := ?_))
  simp (config := {maxSteps := 1000000}) only [↓pI_c, ↓pR_c, ↓pJ_c, ↓pV_c, ↓popN_0, ↓popN_s, ↓lI_0, ↓lR_0, ↓lJ_0, ↓lI_s, ↓lR_s, ↓lJ_s, ↓okSt_0, ↓okSt_I, ↓okSt_R, ↓okSt_N, ↓okSt_s, ↓rtI_s, ↓rtV_n, ↓brP_t, ↓brP_f, ↓sProp_update_0, ↓sProp_update_1, ↓sProp_update_2, ↓rf_27_5, ↓sProp_update_5, ↓sProp_update_6, ↓rf_27_0, ↓sProp_update_9, ↓rf_24_7, ↓sProp_update_12, ↓sProp_update_13, ↓sProp_update_16, ↓sProp_update_17, ↓rf_27_1, ↓sProp_update_20, ↓rf_28_0, ↓rf_41_0, ↓sProp_update_23, ↓rf_3_0, ↓sProp_update_26, ↓sProp_update_28, ↓sProp_update_29, ↓sProp_update_30, ↓sProp_update_33, ↓sProp_update_34, ↓sProp_update_35, ↓sProp_update_36, ↓sProp_update_37, ↓sProp_update_38, ↓sProp_update_41, ↓rf_24_2, ↓sProp_update_44, ↓rf_10_4, ↓sProp_update_47, ↓sProp_update_50, ↓sProp_update_51, ↓sProp_update_54, ↓sProp_update_57, ↓sProp_update_58, ↓sProp_update_61, ↓sProp_update_64, ↓sProp_update_65, ↓sProp_update_66, ↓sProp_update_69, ↓sProp_update_72, ↓sProp_update_75, ↓ln_4, List.set_cons_zero, List.set_cons_succ, List.length_cons, List.length_nil, List.contains_cons, List.contains_nil, cat1, brP_d, true_and, and_true, not_false_eq_true, not_true_eq_false, if_true, if_false, Bool.or_false, Bool.false_or, Bool.or_true, Bool.true_or, Bool.false_eq_true, Bool.or_self, false_implies, true_implies, forall_const, and_self, implies_true, true_or, or_true, or_false, false_or, or_self, Classical.not_not, Int.reduceAdd, Int.reduceSub, Int.reduceMul, Int.reduceNeg, Int.reduceToNat, Int.reduceLT, Int.reduceLE, Int.reduceEq, Int.reduceNe, Int.reduceNatCast', Nat.reduceAdd, Nat.reduceSub, Nat.reduceLeDiff, Nat.reduceLT, Nat.reduceEqDiff, Nat.reduceBEq, reduceIte, nx_w, nx_c, up_n, up_s, up_f, ne_eq, Nat.reduceEqDiff, Option.some.injEq, Prod.mk.injEq, exists_eq_left', reduceCtorEq, ob_10, ob_27, e4]
  refine ⟨fun h1 => ⟨z, Or.inr ⟨fun y => h1 y.1, e5⟩⟩, fun h1 => ⟨fun h2 => ?_, fun h2 => ⟨z, Or.inr ⟨fun y => h2 y.2, e5⟩⟩⟩⟩
  have hv := hr.2.2
  rw [h1] at hv
  obtain ⟨q, hu, h9, h8⟩ := verd_u3 hv
  refine Wt.mono ?_ (l_Prop_update g (up h 27 5 0) hC (hk.tr z.kf) (hr.pp z) q hu (by rw [up_n (by decide)]; exact h9) (by rw [up_n (by decide)]; exact h8) ((g 10 4).toNat + 1) 0 (up h 27 5 0) (by have := hC.1.1; push_cast; omega) (by have := hC.1.1; push_cast; omega) ppF.rf ⟨e5, fun i hi => absurd hi (Nat.not_lt_zero i)⟩)
  rintro v sh' h' ⟨rfl, hv'⟩
  refine ⟨rfl, ?_⟩
  obtain ⟨rfl, q1, q2⟩ := rtV_ex hv'
  exact ⟨z.tr q1, Or.inl ⟨h1, h2, q, hu, q2⟩⟩
theorem rd_upd {h h' : HP} (hq : qUpd h h') : rdG h h' := ⟨hq.2.1, hq.2.2.1, hq.2.2.2⟩
def sProp (i what : Int) (g : HP) (r : Int) : Prop := ∃ v c p x m fw fd ff, verdR g (mN g) (fun i => mT g i) (mW g) v c p x ∧ qPr g v m fw fd ff ∧ (((0 ≤ i ∧ i < m) ∧ ((what = 0 ∧ r = fw i.toNat) ∨ (what = 1 ∧ r = fd i.toNat) ∨ (what = 2 ∧ r = ff i.toNat))) ∨ (¬ ((0 ≤ i ∧ i < m) ∧ 0 ≤ what ∧ what ≤ 2) ∧ r = -2))
theorem qPr_in {g : HP} (hW : CW g) {v m : Int} {fw fd ff : Nat → Int} (h : qPr g v m fw fd ff) : (0 ≤ m ∧ m ≤ 60) ∧ ∀ i : Nat, (i : Int) < m → ff i = 0 ∨ ff i = 1 := by
  have h60 := hW.2.1
  have h0 := hW.1
  rcases h with ⟨_, _, q, _, a1, a2⟩ | ⟨_, a⟩
  · have := prS_le g q (g 10 4).toNat
    exact ⟨by omega, fun i hi => by rw [(a2 i (by omega)).2.2]; exact prS_b g q _ i (by omega)⟩
  · exact ⟨by omega, fun i hi => by omega⟩
theorem qPr_uni {g : HP} {v m m' : Int} {fw fd ff fw' fd' ff' : Nat → Int} (h : qPr g v m fw fd ff) (h' : qPr g v m' fw' fd' ff') : m = m' ∧ ∀ i : Nat, (i : Int) < m → fw i = fw' i ∧ fd i = fd' i ∧ ff i = ff' i := by
  rcases h with ⟨a1, a2, q, a3, a4, a5⟩ | ⟨a1, a2⟩
  · rcases h' with ⟨b1, b2, q', b3, b4, b5⟩ | ⟨b1, b2⟩
    · have := u3_uni a3 b3
      subst this
      exact ⟨by omega, fun i hi => by rw [(a5 i (by omega)).1, (a5 i (by omega)).2.1, (a5 i (by omega)).2.2, (b5 i (by omega)).1, (b5 i (by omega)).2.1, (b5 i (by omega)).2.2]; exact ⟨rfl, rfl, rfl⟩⟩
    · exact absurd ⟨a1, a2⟩ b1
  · rcases h' with ⟨b1, b2, _⟩ | ⟨b1, b2⟩
    · exact absurd ⟨b1, b2⟩ a1
    · exact ⟨by omega, fun i hi => by omega⟩
theorem sProp_uni {g : HP} {i what r r' : Int} (h : sProp i what g r) (h' : sProp i what g r') : r = r' := by
  obtain ⟨v, c, p, x, m, fw, fd, ff, a1, a2, a3⟩ := h
  obtain ⟨v', c', p', x', m', fw', fd', ff', b1, b2, b3⟩ := h'
  have e := (verdR_uni a1 b1).1
  subst e
  obtain ⟨em, ea⟩ := qPr_uni a2 b2
  subst em
  have ea' := fun hh => ea i.toNat hh
  rcases a3 with ⟨c1, c2⟩ | ⟨c1, c2⟩
  · rcases b3 with ⟨d1, d2⟩ | ⟨d1, d2⟩
    · obtain ⟨e1, e2, e3⟩ := ea i.toNat (by omega)
      omega
    · omega
  · rcases b3 with ⟨d1, d2⟩ | ⟨d1, d2⟩
    · omega
    · omega
set_option maxRecDepth 100000 in
set_option maxHeartbeats 4000000 in
theorem t_Help_proposal (h : HP) (hC : CI h) (i w : Int) : trI mHelp_proposal [.inr (.inr 0), .inl i, .inl w] SH0 h (roC (sProp i w) h) := by
  refine startI [some (.inr (.inr 0)), some (.inl i), some (.inl w)] mHelp_proposal_c (go [9999] 400 (k := ?_))
  simp (config := {maxSteps := 1000000}) only [↓pI_c, ↓pR_c, ↓pJ_c, ↓pV_c, ↓popN_0, ↓popN_s, ↓lI_0, ↓lR_0, ↓lJ_0, ↓lI_s, ↓lR_s, ↓lJ_s, ↓okSt_0, ↓okSt_I, ↓okSt_R, ↓okSt_N, ↓okSt_s, ↓rtI_s, ↓rtV_n, ↓brP_t, ↓brP_f, ↓sHelp_proposal_0, ↓sHelp_proposal_1, ↓rf_0_8, ↓sHelp_proposal_4, ↓sHelp_proposal_7, ↓sHelp_proposal_8, ↓rf_0_9, ↓sHelp_proposal_11, ↓sHelp_proposal_14, ↓sHelp_proposal_15, ↓sHelp_proposal_18, ↓sHelp_proposal_19, ↓sHelp_proposal_20, ↓sHelp_proposal_23, ↓rf_27_5, ↓sHelp_proposal_26, ↓sHelp_proposal_29, ↓sHelp_proposal_31, ↓sHelp_proposal_32, ↓sHelp_proposal_33, ↓sHelp_proposal_60, ↓sHelp_proposal_61, ↓sHelp_proposal_64, ↓rf_27_2, ↓sHelp_proposal_67, ↓sHelp_proposal_68, ↓sHelp_proposal_69, ↓sHelp_proposal_70, ↓sHelp_proposal_71, ↓sHelp_proposal_74, ↓rf_27_3, ↓sHelp_proposal_77, ↓sHelp_proposal_78, ↓sHelp_proposal_79, ↓sHelp_proposal_80, ↓sHelp_proposal_81, ↓sHelp_proposal_84, ↓rf_27_4, ↓sHelp_proposal_87, ↓sHelp_proposal_88, ↓sHelp_proposal_89, ↓sHelp_proposal_92, ↓sHelp_proposal_93, ↓sHelp_proposal_96, ↓sHelp_proposal_97, ↓sHelp_proposal_98, ↓sHelp_proposal_100, ↓ln_30, ↓ln_31, ↓ln_32, List.set_cons_zero, List.set_cons_succ, List.length_cons, List.length_nil, List.contains_cons, List.contains_nil, cat1, brP_d, true_and, and_true, not_false_eq_true, not_true_eq_false, if_true, if_false, Bool.or_false, Bool.false_or, Bool.or_true, Bool.true_or, Bool.false_eq_true, Bool.or_self, false_implies, true_implies, forall_const, and_self, implies_true, true_or, or_true, or_false, false_or, or_self, Classical.not_not, Int.reduceAdd, Int.reduceSub, Int.reduceMul, Int.reduceNeg, Int.reduceToNat, Int.reduceLT, Int.reduceLE, Int.reduceEq, Int.reduceNe, Int.reduceNatCast', Nat.reduceAdd, Nat.reduceSub, Nat.reduceLeDiff, Nat.reduceLT, Nat.reduceEqDiff, Nat.reduceBEq, reduceIte, nx_w, nx_c, up_n, up_s, up_f, ne_eq, Nat.reduceEqDiff, Option.some.injEq, Prod.mk.injEq, exists_eq_left', reduceCtorEq, ob_24, ob_27]
  refine trV_use (t_Read_update h hC) ?_
  intro h1 q1
  have k1 := KF.rd q1.1
  refine trV_use (t_Prop_update h h1 hC k1 (rd_upd q1)) ?_
  rintro h2 ⟨p1, p2⟩
  have hin := qPr_in hC.1 p2
  have k2 := k1.tr p1.kf
  have mk : ∀ r, (((0 ≤ i ∧ i < h2 27 5) ∧ ((w = 0 ∧ r = h2 30 i.toNat) ∨ (w = 1 ∧ r = h2 31 i.toNat) ∨ (w = 2 ∧ r = h2 32 i.toNat))) ∨ (¬ ((0 ≤ i ∧ i < h2 27 5) ∧ 0 ≤ w ∧ w ≤ 2) ∧ r = -2)) → roC (sProp i w) h r h2 := fun r hr => ⟨k2, _, _, _, _, _, _, _, _, q1.2.2.2, p2, hr⟩
  refine ⟨fun c1 => mk _ (by omega), fun c1 => ⟨fun c2 => ?_, fun c2 => mk _ (by omega)⟩⟩
  have hb := hin.2 i.toNat (by omega)
  have hn := hin.1
  refine ⟨⟨fun c3 => ⟨by omega, mk _ (by omega)⟩, fun c3 => ⟨by omega, mk _ (by omega)⟩, fun c3 => ⟨by omega, fun c4 => mk _ (by omega), fun c4 => mk _ (by omega)⟩⟩, fun c3 => mk _ (by omega)⟩
