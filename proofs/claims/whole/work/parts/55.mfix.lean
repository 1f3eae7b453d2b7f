/-! fix and choose of the reference -/
theorem CI_lt {g h : HP} (e : ∀ a, a < 24 → h a = g a) (hC : CI g) : CI h := by
  obtain ⟨hW, hN, hR, hS, hL⟩ := hC
  refine ⟨?_, CN_congr (e 6 (by decide)) (e 7 (by decide)) (e 8 (by decide)) (e 9 (by decide)) (e 10 (by decide)) hN, ?_, ?_, CL0_congr (e 6 (by decide)) (e 7 (by decide)) (e 8 (by decide)) (e 19 (by decide)) (e 20 (by decide)) (e 21 (by decide)) (e 22 (by decide)) (e 23 (by decide)) hL⟩
  · unfold CW
    rw [e 10 (by decide), e 11 (by decide), e 13 (by decide), e 14 (by decide)]
    exact hW
  · unfold CR okTok
    rw [e 10 (by decide), e 11 (by decide), e 15 (by decide), e 16 (by decide), e 17 (by decide), e 18 (by decide)]
    exact hR
  · unfold CS
    rw [e 4 (by decide), e 5 (by decide)]
    exact hS
theorem CM_lt {g g' h : HP} (e : ∀ a, a < 24 → g' a = g a) (hm : CM g h) : CM g' h := by
  unfold CM CMW CMN CMR CMS CML at *
  rw [e 4 (by decide), e 5 (by decide), e 6 (by decide), e 7 (by decide), e 8 (by decide), e 9 (by decide), e 10 (by decide), e 11 (by decide), e 12 (by decide), e 13 (by decide), e 14 (by decide), e 15 (by decide), e 16 (by decide), e 17 (by decide), e 18 (by decide), e 19 (by decide), e 20 (by decide)]
  exact hm
theorem CMg_l {g g' h : HP} (e : ∀ a, 36 ≤ a → a < 41 → g' a = g a) (hm : CMg g h) : CMg g' h := by
  unfold CMg at *
  rw [e 36 (by decide) (by decide), e 37 (by decide) (by decide), e 38 (by decide) (by decide), e 39 (by decide) (by decide), e 40 (by decide) (by decide)]
  exact hm
theorem CI_note {g : HP} {x : Int} (hC : CI g) : CI (up g 19 6 x) := by
  have e : ∀ a, a ≠ 19 → up g 19 6 x a = g a := fun a ha => up_ne ha
  have e4 : up g 19 6 x 19 4 = g 19 4 := up_f (by decide)
  have e5 : up g 19 6 x 19 5 = g 19 5 := up_f (by decide)
  obtain ⟨hW, hN, hR, hS, hL⟩ := hC
  refine ⟨?_, CN_congr (e 6 (by decide)) (e 7 (by decide)) (e 8 (by decide)) (e 9 (by decide)) (e 10 (by decide)) hN, ?_, ?_, ?_⟩
  · unfold CW
    rw [e 10 (by decide), e 11 (by decide), e 13 (by decide), e 14 (by decide)]
    exact hW
  · unfold CR okTok
    rw [e 10 (by decide), e 11 (by decide), e 15 (by decide), e 16 (by decide), e 17 (by decide), e 18 (by decide)]
    exact hR
  · unfold CS
    rw [e 4 (by decide), e 5 (by decide)]
    exact hS
  · unfold CL0 IRuns known mt tw at *
    rw [e4, e5, e 6 (by decide), e 7 (by decide), e 8 (by decide), e 20 (by decide), e 21 (by decide), e 22 (by decide), e 23 (by decide)]
    exact hL
theorem CM_note {g h : HP} {x : Int} (hm : CM g h) : CM (up g 19 6 x) (up h 43 21 x) := by
  have e : ∀ a, a ≠ 19 → up g 19 6 x a = g a := fun a ha => up_ne ha
  have e4 : up g 19 6 x 19 4 = g 19 4 := up_f (by decide)
  have e6 : up g 19 6 x 19 6 = x := up_s
  have f : ∀ a, a ≠ 43 → up h 43 21 x a = h a := fun a ha => up_ne ha
  have f1 : up h 43 21 x 43 1 = h 43 1 := up_f (by decide)
  have f6 : up h 43 21 x 43 6 = h 43 6 := up_f (by decide)
  have f10 : up h 43 21 x 43 10 = h 43 10 := up_f (by decide)
  have f18 : up h 43 21 x 43 18 = h 43 18 := up_f (by decide)
  have f21 : up h 43 21 x 43 21 = x := up_s
  obtain ⟨a1, a2, a3, a4, a5, a6, a7⟩ := hm
  unfold CM CMW CMN CMR CMS CML at *
  rw [e4, e6, f1, f6, f10, f18, f21, e 4 (by decide), e 5 (by decide), e 6 (by decide), e 7 (by decide), e 8 (by decide), e 9 (by decide), e 10 (by decide), e 11 (by decide), e 12 (by decide), e 13 (by decide), e 14 (by decide), e 15 (by decide), e 16 (by decide), e 17 (by decide), e 18 (by decide), e 20 (by decide), f 44 (by decide), f 45 (by decide), f 46 (by decide), f 47 (by decide), f 48 (by decide), f 49 (by decide), f 50 (by decide), f 51 (by decide), f 52 (by decide), f 53 (by decide), f 54 (by decide), f 55 (by decide), f 57 (by decide)]
  exact ⟨a1, a2, a3, a4, a5, rfl, a7⟩
theorem CMg_note {g h : HP} {x y : Int} (hm : CMg g h) : CMg (up g 19 6 x) (up h 43 21 y) := by
  have f : ∀ a, a ≠ 43 → up h 43 21 y a = h a := fun a ha => up_ne ha
  have f39 : up h 43 21 y 43 39 = h 43 39 := up_f (by decide)
  refine CMg_l (g := g) (fun a a1 a2 => up_ne (by omega)) ?_
  unfold CMg at *
  rw [f39, f 69 (by decide), f 70 (by decide), f 71 (by decide), f 72 (by decide)]
  exact hm
theorem acM_note {g h h' : HP} {k : Nat} {w x : Int} (ha : acM (up g 19 6 x) h k w h') : acM g h k w h' := by
  have e : ∀ a, a ≠ 19 → up g 19 6 x a = g a := fun a ha => up_ne ha
  have e4 : up g 19 6 x 19 4 = g 19 4 := up_f (by decide)
  unfold acM frst qLogM lgP sameL lm69 tw rpS rpF nmF at *
  rw [e4, e 6 (by decide), e 7 (by decide), e 8 (by decide), e 9 (by decide), e 20 (by decide), e 21 (by decide), e 22 (by decide), e 23 (by decide), e 36 (by decide), e 37 (by decide), e 38 (by decide), e 39 (by decide)] at ha
  exact ha
def qFixM (g h : HP) (r : Int) (h' : HP) : Prop := fixS g r (MS h h') (fun q w => ∃ h0, MS h h0 ∧ acM g (up h0 43 21 (mT g q)) (mT g q) w h')
set_option maxRecDepth 100000 in
set_option maxHeartbeats 4000000 in
theorem t_Model_fix (g h : HP) (hC : CI g) (hG : CLg g) (hm : CM g h) (hmg : CMg g h) : trI mModel_fix [.inr (.inr 43)] SH0 h (qFixM g h) := by
  have h60 := hC.1.2.1
  refine startI [some (.inr (.inr 43)), none, none] mModel_fix_c (go [9999] 400 (k := ?_))
  simp (config := {maxSteps := 1000000}) only [↓pI_c, ↓pR_c, ↓pJ_c, ↓pV_c, ↓popN_0, ↓popN_s, ↓lI_0, ↓lR_0, ↓lJ_0, ↓lI_s, ↓lR_s, ↓lJ_s, ↓okSt_0, ↓okSt_I, ↓okSt_R, ↓okSt_N, ↓okSt_s, ↓rtI_s, ↓rtV_n, ↓brP_t, ↓brP_f, ↓sModel_fix_0, ↓sModel_fix_1, ↓sModel_fix_2, ↓rf_43_0, ↓sModel_fix_5, ↓sModel_fix_6, ↓sModel_fix_9, ↓sModel_fix_10, ↓rf_43_29, ↓sModel_fix_13, ↓sModel_fix_14, ↓sModel_fix_17, ↓sModel_fix_19, ↓sModel_fix_20, ↓sModel_fix_21, ↓rf_43_35, ↓sModel_fix_24, ↓sModel_fix_27, ↓sModel_fix_28, ↓sModel_fix_29, ↓sModel_fix_30, ↓rf_43_27, ↓sModel_fix_33, ↓sModel_fix_34, ↓sModel_fix_35, ↓sModel_fix_36, ↓rf_43_30, ↓sModel_fix_39, ↓sModel_fix_42, ↓sModel_fix_43, ↓rf_43_36, ↓sModel_fix_46, ↓sModel_fix_47, ↓sModel_fix_48, ↓sModel_fix_51, ↓sModel_fix_52, ↓rf_43_28, ↓sModel_fix_55, ↓sModel_fix_56, ↓sModel_fix_57, ↓sModel_fix_58, ↓sModel_fix_59, ↓rf_43_14, ↓sModel_fix_62, ↓sModel_fix_64, ↓sModel_fix_65, ↓sModel_fix_66, ↓sModel_fix_69, ↓sModel_fix_70, ↓sModel_fix_73, ↓sModel_fix_74, ↓sModel_fix_77, ↓sModel_fix_78, ↓rf_43_37, ↓sModel_fix_81, ↓sModel_fix_82, ↓sModel_fix_83, ↓sModel_fix_84, ↓sModel_fix_87, ↓sModel_fix_88, ↓sModel_fix_89, ↓sModel_fix_92, ↓sModel_fix_93, ↓rf_43_38, ↓sModel_fix_96, ↓sModel_fix_97, ↓sModel_fix_98, ↓sModel_fix_101, ↓sModel_fix_102, ↓rf_43_4, ↓sModel_fix_105, ↓sModel_fix_106, ↓sModel_fix_107, ↓sModel_fix_110, ↓sModel_fix_111, ↓sModel_fix_114, ↓sModel_fix_115, ↓sModel_fix_116, ↓sModel_fix_117, ↓sModel_fix_120, ↓sModel_fix_121, ↓sModel_fix_122, ↓sModel_fix_123, ↓sModel_fix_124, ↓sModel_fix_127, ↓rf_43_21, ↓sModel_fix_130, ↓sModel_fix_131, ↓sModel_fix_132, ↓sModel_fix_135, ↓sModel_fix_136, ↓sModel_fix_137, ↓sModel_fix_140, ↓sModel_fix_141, ↓ln_46, ↓ln_54, ↓ln_62, ↓ln_63, ↓ln_66, ↓ln_67, ↓ln_68, List.set_cons_zero, List.set_cons_succ, List.length_cons, List.length_nil, List.contains_cons, List.contains_nil, cat1, brP_d, true_and, and_true, not_false_eq_true, not_true_eq_false, if_true, if_false, Bool.or_false, Bool.false_or, Bool.or_true, Bool.true_or, Bool.false_eq_true, Bool.or_self, false_implies, true_implies, forall_const, and_self, implies_true, true_or, or_true, or_false, false_or, or_self, Classical.not_not, Int.reduceAdd, Int.reduceSub, Int.reduceMul, Int.reduceNeg, Int.reduceToNat, Int.reduceLT, Int.reduceLE, Int.reduceEq, Int.reduceNe, Int.reduceNatCast', Nat.reduceAdd, Nat.reduceSub, Nat.reduceLeDiff, Nat.reduceLT, Nat.reduceEqDiff, Nat.reduceBEq, reduceIte, nx_w, nx_c, up_n, up_s, up_f, ne_eq, Nat.reduceEqDiff, Option.some.injEq, Prod.mk.injEq, exists_eq_left', reduceCtorEq, ob_43]
  refine trV_use (t_Model_propose g _ hC (hm.ms msu0)) ?_
  rintro h1 ⟨q1, q2, q3, ⟨p, x, q4⟩, q5⟩
  have hms : MS h h1 := msu0.tr q1
  have hm1 := hm.ms hms
  have hmg1 := hmg.ms hms
  have hin := qPr_in hC.1 q5
  refine ⟨fun c1 => ?_, fun c1 => ⟨_, _, _, _, q4, Or.inl ⟨c1, rfl, hms⟩⟩⟩
  have hv3 := q4
  rw [c1] at hv3
  obtain ⟨q, hu, e9, e8⟩ := verd_u3 hv3
  have hmT := mT_in hu.1 hC.2.2.2.2.2.2.2.1.1
  have hpos : 0 < mN g := by have := hu.1; omega
  refine ⟨fun c2 => ?_, fun c2 => ⟨_, _, _, _, q4, Or.inr ⟨c1, q, _, _, _, _, hu, q5, Or.inl ⟨c2, rfl, hms⟩⟩⟩⟩
  have hw0 := qPr_w q5 hC.1.1 (i := 0) (by omega)
  have no : ¬ sureP g q (h1 43 35) (h1 66) (h1 67) (h1 68) → qFixM g h 2 h1 := fun z => ⟨_, _, _, _, q4, Or.inr ⟨c1, q, _, _, _, _, hu, q5, Or.inr (Or.inl ⟨by omega, z, rfl, hms⟩)⟩⟩
  have e54 : h1 54 6 = g 4 6 := hm1.2.2.2.1.1 6 (by decide)
  obtain ⟨e62, e63⟩ := q3.2 0 (by omega)
  have hq0 : (mT g 0 : Int) = mT g q ↔ q = 0 := by
    constructor
    · intro z
      by_cases y : q = 0
      · exact y
      · have := hmT.2 0 (by omega)
        omega
    · intro z
      rw [z]
  have fin : ∀ F, F = (if q = 0 then h1 66 0 else mW g 0) → (0 ≤ F ∧ F < g 10 4) := by
    intro F hF
    rw [hF]
    by_cases z : q = 0
    · rw [if_pos z]; exact hw0
    · rw [if_neg z]
      rcases wd_in hC.2.1 (mT g 0) with y | y
      · exact absurd y (hu.2.2.1 0 (by omega))
      · exact y
  have go' : sureP g q (h1 43 35) (h1 66) (h1 67) (h1 68) → ∃ Q : HP → Prop, trV mModel_becomes [.inr (.inr 43), .inl (h1 66 0)] SH0 (up h1 43 21 (mT g q)) Q ∧ ∀ h', Q h' → qFixM g h 1 h' := fun z => trV_use (t_Model_becomes (up g 19 6 (mT g q)) (up h1 43 21 (mT g q)) (CI_note hC) (CLg_congr (fun a ha => up_ne (by omega)) hG) (CM_note hm1) (CMg_note hmg1) (by
      refine ⟨?_, fun k hk => ?_⟩
      · rw [up_f (by decide), up_f (by decide)]; exact q2.1
      · rw [up_f (by decide)] at hk
        rw [up_n (by decide), up_n (by decide), up_n (by decide), up_n (by decide), up_n (by decide), wd_congr (up_ne (by decide)) (up_ne (by decide)) (up_ne (by decide)) (up_ne (by decide)) (up_ne (by decide)) (up_ne (by decide)) (up_ne (by decide))]
        exact q2.2 k hk) (mT g q) (by rw [up_f (by decide)]; exact hmT.1) (by rw [up_f (by decide)]; exact e8) (h1 66 0) (by rw [up_n (by decide)]; exact hw0)) (fun h' ha => ⟨_, _, _, _, q4, Or.inr ⟨c1, q, _, _, _, _, hu, q5, Or.inr (Or.inr ⟨by omega, z, rfl, h1, hms, acM_note ha⟩)⟩⟩)
  rw [e62, e63, e54, e8]
  refine ⟨fun c3 => ?_, fun c3 => ?_⟩
  · have hF : mW g 0 = (if q = 0 then h1 66 0 else mW g 0) := by rw [if_neg (fun z => c3 (hq0.mpr z))]
    have hFi := fin _ hF
    have e46 := (hm1.1.2 (mW g 0).toNat (by omega)).2.2.1
    rw [e46]
    refine ⟨fun c4 => no (fun z => c4 z.2.1), fun c4 => ⟨fun c5 => ?_, fun c5 => ⟨fun c6 => no (fun z => by have := z.1; omega), fun c6 => ?_⟩⟩⟩
    all_goals
      have hcl : h1 43 35 = 1 ∨ h1 67 0 < h1 67 1 := by omega
      refine ⟨fun c7 => no (fun z => z.2.2.1 c7), fun c7 => ⟨by omega, fun c8 => no (fun z => c8 (by rw [hF]; exact z.2.2.2)), fun c8 => go' ⟨hcl, c4, c7, by rw [← hF]; exact c8⟩⟩⟩
  · have hF : h1 66 0 = (if q = 0 then h1 66 0 else mW g 0) := by rw [if_pos (hq0.mp c3)]
    have hFi := fin _ hF
    have e46 := (hm1.1.2 (h1 66 0).toNat (by omega)).2.2.1
    rw [e46]
    refine ⟨fun c4 => no (fun z => c4 z.2.1), fun c4 => ⟨fun c5 => ?_, fun c5 => ⟨fun c6 => no (fun z => by have := z.1; omega), fun c6 => ?_⟩⟩⟩
    all_goals
      have hcl : h1 43 35 = 1 ∨ h1 67 0 < h1 67 1 := by omega
      refine ⟨fun c7 => no (fun z => z.2.2.1 c7), fun c7 => ⟨by omega, fun c8 => no (fun z => c8 (by rw [hF]; exact z.2.2.2)), fun c8 => go' ⟨hcl, c4, c7, by rw [← hF]; exact c8⟩⟩⟩
theorem acM_ne {g h h' : HP} {k : Nat} {w : Int} (ha : acM g h k w h') : (∀ a, a ≠ 43 → a ≠ 57 → a ≠ 58 → a ≠ 69 → a ≠ 70 → a ≠ 71 → a ≠ 72 → h' a = h a) ∧ ∀ b, b ≠ 18 → b ≠ 39 → h' 43 b = h 43 b := by
  obtain ⟨n, _, h1, hq, a1, a2, _⟩ := ha
  obtain ⟨b1, b2'⟩ := qLogM_ne hq
  exact ⟨fun a c1 c2 c3 c4 c5 c6 c7 => by rw [a1 a c1 c2 c3, b1 a c1 c4 c5 c6 c7], fun b c1 c2 => by rw [a2 b c1, b2' b c2]⟩
theorem acc_CM {g h2 hm hm' : HP} {k : Nat} {w x : Int} (hm0 : CM g hm) (ha : accC g k w h2) (hb : acM g hm k w hm') (e21 : hm' 43 21 = x) : CM (up h2 19 6 x) hm' := by
  obtain ⟨n, h0, h1, f1, ⟨b1, b2', b3, b4, _⟩, _, _, _⟩ := acc_L ha
  obtain ⟨c1, c2⟩ := acM_ne hb
  obtain ⟨n', f2, _, _, _, _, d1, d2⟩ := hb
  have en := frst_uni f1 f2
  subst en
  have e : ∀ a, a < 19 → up h2 19 6 x a = g a := fun a ha => by rw [up_ne (by omega)]; exact b1 a (Or.inl ha)
  have f : ∀ a, a ≠ 43 → a ≠ 57 → a ≠ 58 → a < 69 → hm' a = hm a := fun a z1 z2 z3 z4 => c1 a z1 z2 z3 (by omega) (by omega) (by omega) (by omega)
  obtain ⟨a1, a2, a3, a4, a5, a6, a7⟩ := hm0
  refine ⟨?_, ?_, ?_, ?_, ?_, ?_, fun j hj => ?_⟩
  · unfold CMW at *
    rw [c2 1 (by decide) (by decide), e 10 (by decide), e 11 (by decide), e 12 (by decide), e 13 (by decide), e 14 (by decide), f 44 (by decide) (by decide) (by decide) (by decide), f 45 (by decide) (by decide) (by decide) (by decide), f 46 (by decide) (by decide) (by decide) (by decide), f 47 (by decide) (by decide) (by decide) (by decide)]
    exact a1
  · unfold CMN at *
    rw [c2 6 (by decide) (by decide), e 6 (by decide), e 7 (by decide), e 8 (by decide), e 9 (by decide), f 48 (by decide) (by decide) (by decide) (by decide), f 49 (by decide) (by decide) (by decide) (by decide), f 50 (by decide) (by decide) (by decide) (by decide)]
    exact a2
  · unfold CMR at *
    rw [c2 10 (by decide) (by decide), e 15 (by decide), e 16 (by decide), e 17 (by decide), e 18 (by decide), f 51 (by decide) (by decide) (by decide) (by decide), f 52 (by decide) (by decide) (by decide) (by decide), f 53 (by decide) (by decide) (by decide) (by decide)]
    exact a3
  · unfold CMS at *
    rw [e 4 (by decide), e 5 (by decide), f 54 (by decide) (by decide) (by decide) (by decide), f 55 (by decide) (by decide) (by decide) (by decide)]
    exact a4
  · rw [up_f (by decide), b3, d1]
  · rw [up_s, e21]
  · rw [up_f (by decide), b3] at hj
    rw [up_n (by decide), (b4 j hj).1, d2 j hj]
def qChM (g g1 h : HP) (i r : Int) (h' : HP) : Prop := chS g i r (MS h h') (fun q w => ∃ h0 h2, MS h h0 ∧ acM g h0 (mT g q) w h2 ∧ MS (up h2 43 21 (-1)) h' ∧ sLook g1 r)
set_option maxRecDepth 100000 in
set_option maxHeartbeats 4000000 in
theorem t_Model_choose (g g1 h : HP) (hC : CI g) (hG : CLg g) (hm : CM g h) (hmg : CMg g h) (i : Int) (hg1 : ∀ v c p x m fw fd ff q, verdR g (mN g) (fun i => mT g i) (mW g) v c p x → qPr g v m fw fd ff → (0 ≤ i ∧ i < m) → u3 g q → ∃ h2, accC g (mT g q) (fw i.toNat) h2 ∧ g1 = up h2 19 6 (-1)) : trI mModel_choose [.inr (.inr 43), .inl i] SH0 h (qChM g g1 h i) := by
  have h60 := hC.1.2.1
  refine startI [some (.inr (.inr 43)), some (.inl i)] mModel_choose_c (go [9999] 400 (k := ?_))
  simp (config := {maxSteps := 1000000}) only [↓pI_c, ↓pR_c, ↓pJ_c, ↓pV_c, ↓popN_0, ↓popN_s, ↓lI_0, ↓lR_0, ↓lJ_0, ↓lI_s, ↓lR_s, ↓lJ_s, ↓okSt_0, ↓okSt_I, ↓okSt_R, ↓okSt_N, ↓okSt_s, ↓rtI_s, ↓rtV_n, ↓brP_t, ↓brP_f, ↓sModel_choose_0, ↓sModel_choose_1, ↓sModel_choose_2, ↓rf_43_0, ↓sModel_choose_5, ↓sModel_choose_6, ↓sModel_choose_9, ↓sModel_choose_10, ↓sModel_choose_11, ↓sModel_choose_12, ↓rf_43_35, ↓sModel_choose_15, ↓sModel_choose_16, ↓sModel_choose_17, ↓sModel_choose_20, ↓sModel_choose_23, ↓sModel_choose_25, ↓sModel_choose_26, ↓sModel_choose_27, ↓sModel_choose_28, ↓rf_43_36, ↓sModel_choose_31, ↓sModel_choose_32, ↓sModel_choose_33, ↓sModel_choose_36, ↓sModel_choose_37, ↓sModel_choose_38, ↓rf_43_21, ↓sModel_choose_41, ↓sModel_choose_42, ↓sModel_choose_45, ↓sModel_choose_46, ↓rf_43_29, ↓sModel_choose_49, ↓ln_66, List.set_cons_zero, List.set_cons_succ, List.length_cons, List.length_nil, List.contains_cons, List.contains_nil, cat1, brP_d, true_and, and_true, not_false_eq_true, not_true_eq_false, if_true, if_false, Bool.or_false, Bool.false_or, Bool.or_true, Bool.true_or, Bool.false_eq_true, Bool.or_self, false_implies, true_implies, forall_const, and_self, implies_true, true_or, or_true, or_false, false_or, or_self, Classical.not_not, Int.reduceAdd, Int.reduceSub, Int.reduceMul, Int.reduceNeg, Int.reduceToNat, Int.reduceLT, Int.reduceLE, Int.reduceEq, Int.reduceNe, Int.reduceNatCast', Nat.reduceAdd, Nat.reduceSub, Nat.reduceLeDiff, Nat.reduceLT, Nat.reduceEqDiff, Nat.reduceBEq, reduceIte, nx_w, nx_c, up_n, up_s, up_f, ne_eq, Nat.reduceEqDiff, Option.some.injEq, Prod.mk.injEq, exists_eq_left', reduceCtorEq, ob_43]
  refine trV_use (t_Model_propose g _ hC (hm.ms msu0)) ?_
  rintro h1 ⟨q1, q2, q3, ⟨p, x, q4⟩, q5⟩
  have hms : MS h h1 := msu0.tr q1
  have hm1 := hm.ms hms
  have hmg1 := hmg.ms hms
  have hin := qPr_in hC.1 q5
  rw [wr_id (x := h1 43 35 - 1) (by omega) (by omega)]
  refine use_in (fun e1 => ?_) (fun e1 => ?_)
  · simp only [one_ne, not_false_eq_true, true_implies, false_implies, true_and, and_true]
    have v3 : h1 43 29 = 3 := by
      rcases q5 with z | z
      · exact z.1
      · omega
    have hv3 := q4
    rw [v3] at hv3
    obtain ⟨q, hu, e9, e8⟩ := verd_u3 hv3
    have hmT := mT_in hu.1 hC.2.2.2.2.2.2.2.1.1
    have hwi := qPr_w q5 hC.1.1 (i := i.toNat) (by omega)
    refine ⟨by omega, trV_use (t_Model_becomes g h1 hC hG hm1 hmg1 q2 (mT g q) hmT.1 e8 (h1 66 i.toNat) hwi) ?_⟩
    intro h2 ha
    obtain ⟨hc, b1, b2'⟩ := hg1 _ _ _ _ _ _ _ _ q q4 q5 (by omega) hu
    obtain ⟨n, _, _, fn, al, _, _, _⟩ := acc_L b1
    have hC1 : CI g1 := by rw [b2']; exact acL_CI hC hu fn.1 al (-1)
    have hcm : CM g1 (up h2 43 21 (-1)) := by
      rw [b2']
      have := acc_CM (x := h2 43 21) hm1 b1 ha rfl
      have := CM_note (x := -1) this
      rw [up_up] at this
      exact this
    refine trV_use (t_Model_judge g1 _ hC1 hcm) ?_
    rintro h3 ⟨r1, r2, r3, r4, p', x', r5⟩
    exact ⟨_, _, _, _, q4, _, _, _, _, q5, Or.inr ⟨by omega, q, hu, h1, h2, hms, ha, r1, _, _, _, r5⟩⟩
  · simp only [not_true_eq_false, true_implies, false_implies, true_and, and_true]
    exact ⟨_, _, _, _, q4, _, _, _, _, q5, Or.inl ⟨by omega, rfl, hms⟩⟩
