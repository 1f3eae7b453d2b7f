/-! fix and choose of both sides -/
theorem CLg_congr {g h : HP} (e : ∀ a, a = 10 ∨ a = 36 ∨ a = 37 ∨ a = 38 ∨ a = 39 → h a = g a) (hG : CLg g) : CLg h := by
  unfold CLg
  rw [e 10 (by decide), e 36 (by decide), e 37 (by decide), e 38 (by decide), e 39 (by decide)]
  exact hG
set_option maxRecDepth 100000 in
set_option maxHeartbeats 4000000 in
theorem t_Help_accept (g h : HP) (hC : CI g) (hG : CLg g) (hk : KF g h) (k : Nat) (hk5 : (k : Int) < g 19 5) (e8 : h 24 8 = k) (i w : Int) (hi : 0 ≤ i ∧ i < 60) (ew : h 30 i.toNat = w) (hw : 0 ≤ w ∧ w < g 10 4) (h80 : g 19 4 ≤ 80) : trV mHelp_accept [.inr (.inr 0), .inl i] SH0 h (accC g k w) := by
  have hCh := hC.kf hk
  have hL := hCh.2.2.2.2
  have k10 := hL.2.2.2.1.2.1
  have hk5' : (k : Int) < h 19 5 := by rw [hk 19 (by decide)]; exact hk5
  have hty := ty_in hL hk5'
  have ek : ((k : Int)).toNat = k := by omega
  have hGh : CLg h := CLg_congr (fun a ha => hk a (by omega)) hG
  refine startV [some (.inr (.inr 0)), some (.inl i), none, none] mHelp_accept_c (go [9999] 400 (k := ?_))
  simp (config := {maxSteps := 1000000}) only [↓pI_c, ↓pR_c, ↓pJ_c, ↓pV_c, ↓popN_0, ↓popN_s, ↓lI_0, ↓lR_0, ↓lJ_0, ↓lI_s, ↓lR_s, ↓lJ_s, ↓okSt_0, ↓okSt_I, ↓okSt_R, ↓okSt_N, ↓okSt_s, ↓rtI_s, ↓rtV_n, ↓brP_t, ↓brP_f, ↓sHelp_accept_0, ↓sHelp_accept_1, ↓rf_0_8, ↓sHelp_accept_4, ↓rf_24_8, ↓sHelp_accept_7, ↓sHelp_accept_8, ↓sHelp_accept_9, ↓rf_0_9, ↓sHelp_accept_12, ↓rf_27_2, ↓sHelp_accept_15, ↓sHelp_accept_16, ↓sHelp_accept_17, ↓sHelp_accept_18, ↓sHelp_accept_19, ↓rf_0_11, ↓sHelp_accept_22, ↓sHelp_accept_23, ↓rf_0_7, ↓sHelp_accept_26, ↓rf_19_1, ↓sHelp_accept_29, ↓sHelp_accept_30, ↓sHelp_accept_33, ↓rf_19_2, ↓sHelp_accept_36, ↓sHelp_accept_37, ↓sHelp_accept_38, ↓sHelp_accept_39, ↓sHelp_accept_42, ↓rf_19_3, ↓sHelp_accept_45, ↓sHelp_accept_46, ↓sHelp_accept_47, ↓sHelp_accept_48, ↓sHelp_accept_51, ↓sHelp_accept_52, ↓sHelp_accept_55, ↓sHelp_accept_56, ↓sHelp_accept_57, ↓rf_0_4, ↓sHelp_accept_60, ↓sHelp_accept_61, ↓sHelp_accept_64, ↓sHelp_accept_65, ↓sHelp_accept_68, ↓sHelp_accept_71, ↓ln_21, ↓ln_22, ↓ln_23, ↓ln_30, List.set_cons_zero, List.set_cons_succ, List.length_cons, List.length_nil, List.contains_cons, List.contains_nil, cat1, brP_d, true_and, and_true, not_false_eq_true, not_true_eq_false, if_true, if_false, Bool.or_false, Bool.false_or, Bool.or_true, Bool.true_or, Bool.false_eq_true, Bool.or_self, false_implies, true_implies, forall_const, and_self, implies_true, true_or, or_true, or_false, false_or, or_self, Classical.not_not, Int.reduceAdd, Int.reduceSub, Int.reduceMul, Int.reduceNeg, Int.reduceToNat, Int.reduceLT, Int.reduceLE, Int.reduceEq, Int.reduceNe, Int.reduceNatCast', Nat.reduceAdd, Nat.reduceSub, Nat.reduceLeDiff, Nat.reduceLT, Nat.reduceEqDiff, Nat.reduceBEq, reduceIte, nx_w, nx_c, up_n, up_s, up_f, ne_eq, Nat.reduceEqDiff, Option.some.injEq, Prod.mk.injEq, exists_eq_left', reduceCtorEq, ob_36, ob_6, ob_19, e8, ek, ew]
  refine ⟨by omega, by omega, by omega, trV_use (t_Log_add h hGh k hty w) ?_⟩
  intro h1 hq
  obtain ⟨n1, n2⟩ := qLog_ne hq
  have e : ∀ a, a < 24 → h1 a = g a := fun a ha => by rw [n1 a (by omega)]; exact hk a (by omega)
  have hn6 : 0 ≤ h1 6 3 ∧ h1 6 3 ≤ 90 := by rw [e 6 (by decide)]; exact ⟨hC.2.1.1, hC.2.1.2.1⟩
  refine use_q (t_Names_firstOf h1 w hn6) ?_
  rw [e 6 (by decide), e 9 (by decide)]
  intro x hx
  rcases hx with ⟨rfl, hx⟩ | ⟨n, m1, rfl, m2, m3⟩
  · obtain ⟨n0, m1, m2⟩ := hC.2.1.2.2.2.2 w hw.1 hw.2
    exact absurd m2 (hx n0 m1)
  · have hL1 : CL0 h1 := CL0_congr (e 6 (by decide)) (e 7 (by decide)) (e 8 (by decide)) (e 19 (by decide)) (e 20 (by decide)) (e 21 (by decide)) (e 22 (by decide)) (e 23 (by decide)) hC.2.2.2.2
    have hnm := nm_in hC.2.1 m1
    have hr := hC.2.2.2.2.2.2.2.1.2.2.1 k hk5
    refine trV_use (t_Line_replace h1 hL1 k n (by rw [e 19 (by decide)]; exact hk5) (nmIn_congr (e 7 (by decide)) (e 8 (by decide)) hnm) (by
      unfold rpS
      rw [e 19 (by decide), e 23 (by decide), e 8 (by decide)]
      have := hnm.1
      omega)) ?_
    intro h2 hr
    exact ⟨h, n, h1, hk, ⟨m1, m2, m3⟩, hq, hr⟩
noncomputable def sureP (g : HP) (q : Nat) (m : Int) (fw fd ff : Nat → Int) : Prop := (m = 1 ∨ fd 0 < fd 1) ∧ g 4 6 = 1 ∧ ¬ ff 0 = 0 ∧ g 14 (if q = 0 then fw 0 else mW g 0).toNat = 0
set_option maxRecDepth 100000 in
set_option maxHeartbeats 4000000 in
theorem t_Read_verbWith (h : HP) (w : Int) : trI mRead_verbWith [.inr (.inr 24), .inl w] SH0 h (fun r h' => h' = h ∧ r = if h 24 9 = 0 then w else h 26 0) := by
  refine startI [some (.inr (.inr 24)), some (.inl w)] mRead_verbWith_c (go [9999] 400 (k := ?_))
  simp (config := {maxSteps := 1000000}) only [↓pI_c, ↓pR_c, ↓pJ_c, ↓pV_c, ↓popN_0, ↓popN_s, ↓lI_0, ↓lR_0, ↓lJ_0, ↓lI_s, ↓lR_s, ↓lJ_s, ↓okSt_0, ↓okSt_I, ↓okSt_R, ↓okSt_N, ↓okSt_s, ↓rtI_s, ↓rtV_n, ↓brP_t, ↓brP_f, ↓sRead_verbWith_0, ↓sRead_verbWith_1, ↓rf_24_9, ↓sRead_verbWith_4, ↓sRead_verbWith_7, ↓sRead_verbWith_8, ↓sRead_verbWith_11, ↓sRead_verbWith_12, ↓rf_24_5, ↓sRead_verbWith_15, ↓sRead_verbWith_16, ↓sRead_verbWith_17, ↓ln_26, List.set_cons_zero, List.set_cons_succ, List.length_cons, List.length_nil, List.contains_cons, List.contains_nil, cat1, brP_d, true_and, and_true, not_false_eq_true, not_true_eq_false, if_true, if_false, Bool.or_false, Bool.false_or, Bool.or_true, Bool.true_or, Bool.false_eq_true, Bool.or_self, false_implies, true_implies, forall_const, and_self, implies_true, true_or, or_true, or_false, false_or, or_self, Classical.not_not, Int.reduceAdd, Int.reduceSub, Int.reduceMul, Int.reduceNeg, Int.reduceToNat, Int.reduceLT, Int.reduceLE, Int.reduceEq, Int.reduceNe, Int.reduceNatCast', Nat.reduceAdd, Nat.reduceSub, Nat.reduceLeDiff, Nat.reduceLT, Nat.reduceEqDiff, Nat.reduceBEq, reduceIte, nx_w, nx_c, up_n, up_s, up_f, ne_eq, Nat.reduceEqDiff, Option.some.injEq, Prod.mk.injEq, exists_eq_left', reduceCtorEq]
  refine ⟨fun c => by rw [if_neg c], fun c => by rw [if_pos c]⟩
set_option maxRecDepth 100000 in
set_option maxHeartbeats 4000000 in
theorem t_Help_mayFixUnasked (g h : HP) (hC : CI g) (hk : KF g h) (hr : rdG g h) (q : Nat) (hu : u3 g q) (e9 : h 24 9 = q) (hw : 0 ≤ h 30 0 ∧ h 30 0 < g 10 4) : trI mHelp_mayFixUnasked [.inr (.inr 0)] SH0 h (fun r h' => h' = h ∧ bP (sureP g q (h 27 5) (h 30) (h 31) (h 32)) r) := by
  have h60 := hC.1.2.1
  have e4 : h 4 = g 4 := hk 4 (by decide)
  have e26 := (hr.2.1 0 (by have := hu.1; omega)).2
  have vin : 0 ≤ (if h 24 9 = 0 then h 30 0 else h 26 0) ∧ (if h 24 9 = 0 then h 30 0 else h 26 0) < g 10 4 := by
    by_cases z : h 24 9 = 0
    · rw [if_pos z]; exact hw
    · rw [if_neg z, e26]
      rcases wd_in hC.2.1 (mT g 0) with y | y
      · exact absurd y (hu.2.2.1 0 (by omega))
      · exact y
  have ev : (if h 24 9 = 0 then h 30 0 else h 26 0) = (if q = 0 then h 30 0 else mW g 0) := by
    rw [e26]
    by_cases z : q = 0
    · rw [if_pos z, if_pos (by omega)]
    · rw [if_neg z, if_neg (by omega)]
  refine startI [some (.inr (.inr 0)), none] mHelp_mayFixUnasked_c (go [9999] 400 (k := ?_))
  simp (config := {maxSteps := 1000000}) only [↓pI_c, ↓pR_c, ↓pJ_c, ↓pV_c, ↓popN_0, ↓popN_s, ↓lI_0, ↓lR_0, ↓lJ_0, ↓lI_s, ↓lR_s, ↓lJ_s, ↓okSt_0, ↓okSt_I, ↓okSt_R, ↓okSt_N, ↓okSt_s, ↓rtI_s, ↓rtV_n, ↓brP_t, ↓brP_f, ↓sHelp_mayFixUnasked_0, ↓sHelp_mayFixUnasked_1, ↓rf_0_9, ↓sHelp_mayFixUnasked_4, ↓rf_27_5, ↓sHelp_mayFixUnasked_7, ↓sHelp_mayFixUnasked_8, ↓sHelp_mayFixUnasked_11, ↓sHelp_mayFixUnasked_12, ↓sHelp_mayFixUnasked_15, ↓rf_27_3, ↓sHelp_mayFixUnasked_18, ↓sHelp_mayFixUnasked_19, ↓sHelp_mayFixUnasked_20, ↓sHelp_mayFixUnasked_21, ↓sHelp_mayFixUnasked_24, ↓sHelp_mayFixUnasked_27, ↓sHelp_mayFixUnasked_28, ↓sHelp_mayFixUnasked_29, ↓sHelp_mayFixUnasked_32, ↓sHelp_mayFixUnasked_33, ↓sHelp_mayFixUnasked_36, ↓sHelp_mayFixUnasked_37, ↓sHelp_mayFixUnasked_38, ↓sHelp_mayFixUnasked_39, ↓rf_0_3, ↓sHelp_mayFixUnasked_42, ↓rf_3_0, ↓sHelp_mayFixUnasked_45, ↓sHelp_mayFixUnasked_47, ↓sHelp_mayFixUnasked_48, ↓sHelp_mayFixUnasked_49, ↓sHelp_mayFixUnasked_52, ↓sHelp_mayFixUnasked_53, ↓sHelp_mayFixUnasked_56, ↓sHelp_mayFixUnasked_57, ↓sHelp_mayFixUnasked_60, ↓rf_27_4, ↓sHelp_mayFixUnasked_63, ↓sHelp_mayFixUnasked_64, ↓sHelp_mayFixUnasked_65, ↓sHelp_mayFixUnasked_68, ↓sHelp_mayFixUnasked_69, ↓sHelp_mayFixUnasked_70, ↓sHelp_mayFixUnasked_71, ↓rf_0_5, ↓sHelp_mayFixUnasked_74, ↓rf_10_3, ↓sHelp_mayFixUnasked_77, ↓sHelp_mayFixUnasked_78, ↓rf_0_8, ↓sHelp_mayFixUnasked_81, ↓sHelp_mayFixUnasked_82, ↓sHelp_mayFixUnasked_85, ↓rf_27_2, ↓sHelp_mayFixUnasked_88, ↓sHelp_mayFixUnasked_89, ↓sHelp_mayFixUnasked_90, ↓sHelp_mayFixUnasked_93, ↓sHelp_mayFixUnasked_94, ↓sHelp_mayFixUnasked_97, ↓sHelp_mayFixUnasked_98, ↓sHelp_mayFixUnasked_101, ↓sHelp_mayFixUnasked_102, ↓ln_4, ↓ln_14, ↓ln_30, ↓ln_31, ↓ln_32, List.set_cons_zero, List.set_cons_succ, List.length_cons, List.length_nil, List.contains_cons, List.contains_nil, cat1, brP_d, true_and, and_true, not_false_eq_true, not_true_eq_false, if_true, if_false, Bool.or_false, Bool.false_or, Bool.or_true, Bool.true_or, Bool.false_eq_true, Bool.or_self, false_implies, true_implies, forall_const, and_self, implies_true, true_or, or_true, or_false, false_or, or_self, Classical.not_not, Int.reduceAdd, Int.reduceSub, Int.reduceMul, Int.reduceNeg, Int.reduceToNat, Int.reduceLT, Int.reduceLE, Int.reduceEq, Int.reduceNe, Int.reduceNatCast', Nat.reduceAdd, Nat.reduceSub, Nat.reduceLeDiff, Nat.reduceLT, Nat.reduceEqDiff, Nat.reduceBEq, reduceIte, nx_w, nx_c, up_n, up_s, up_f, ne_eq, Nat.reduceEqDiff, Option.some.injEq, Prod.mk.injEq, exists_eq_left', reduceCtorEq, ob_24, e4]
  refine ⟨fun c1 => ?a, fun c1 => ⟨fun c2 => ?b, fun c2 => ?c⟩⟩
  case b => exact ⟨fun c3 => Or.inr ⟨rfl, fun z => by have := z.1; omega⟩, fun c3 => Or.inr ⟨rfl, fun z => by have := z.1; omega⟩⟩
  all_goals
    have hcl : h 27 5 = 1 ∨ h 31 0 < h 31 1 := by omega
    refine ⟨fun c3 => Or.inr ⟨rfl, fun z => c3 z.2.1⟩, fun c3 => ⟨fun c4 => ?_, fun c4 => Or.inr ⟨rfl, fun z => z.2.2.1 c4⟩⟩⟩
    refine use_p (t_Read_verbWith h (h 30 0)) ?_
    have e14 : h 14 = g 14 := hk 14 (by decide)
    rw [e14]
    refine ⟨by omega, fun c5 => ?_, fun c5 => ?_⟩
    · rw [ev] at c5
      exact ⟨rfl, Or.inr ⟨rfl, fun z => c5 z.2.2.2⟩⟩
    · rw [ev] at c5
      exact ⟨rfl, Or.inl ⟨rfl, hcl, c3, c4, c5⟩⟩
def fixS (g : HP) (r : Int) (A : Prop) (B : Nat → Int → Prop) : Prop := ∃ v c p x, verdR g (mN g) (fun i => mT g i) (mW g) v c p x ∧ ((¬ v = 3 ∧ r = -3 ∧ A) ∨ (v = 3 ∧ ∃ q m fw fd ff, u3 g q ∧ qPr g v m fw fd ff ∧ ((m = 0 ∧ r = 0 ∧ A) ∨ (0 < m ∧ ¬ sureP g q m fw fd ff ∧ r = 2 ∧ A) ∨ (0 < m ∧ sureP g q m fw fd ff ∧ r = 1 ∧ B q (fw 0)))))
def qFixC (g : HP) (r : Int) (h' : HP) : Prop := fixS g r (KF g h') (fun q w => ∃ h2, accC g (mT g q) w h2 ∧ h' = up h2 19 6 (mT g q))
set_option maxRecDepth 100000 in
set_option maxHeartbeats 4000000 in
theorem t_Help_fix (h : HP) (hC : CI h) (hG : CLg h) : trI mHelp_fix [.inr (.inr 0)] SH0 h (qFixC h) := by
  refine startI [some (.inr (.inr 0)), none] mHelp_fix_c (go [9999] 400 (k := ?_))
  simp (config := {maxSteps := 1000000}) only [↓pI_c, ↓pR_c, ↓pJ_c, ↓pV_c, ↓popN_0, ↓popN_s, ↓lI_0, ↓lR_0, ↓lJ_0, ↓lI_s, ↓lR_s, ↓lJ_s, ↓okSt_0, ↓okSt_I, ↓okSt_R, ↓okSt_N, ↓okSt_s, ↓rtI_s, ↓rtV_n, ↓brP_t, ↓brP_f, ↓sHelp_fix_0, ↓sHelp_fix_1, ↓rf_0_8, ↓sHelp_fix_4, ↓sHelp_fix_7, ↓sHelp_fix_8, ↓sHelp_fix_11, ↓rf_24_7, ↓sHelp_fix_14, ↓sHelp_fix_15, ↓sHelp_fix_18, ↓sHelp_fix_20, ↓sHelp_fix_21, ↓sHelp_fix_22, ↓rf_0_9, ↓sHelp_fix_25, ↓sHelp_fix_28, ↓sHelp_fix_29, ↓sHelp_fix_32, ↓rf_27_5, ↓sHelp_fix_35, ↓sHelp_fix_38, ↓sHelp_fix_39, ↓sHelp_fix_40, ↓sHelp_fix_41, ↓sHelp_fix_44, ↓sHelp_fix_47, ↓sHelp_fix_48, ↓sHelp_fix_49, ↓sHelp_fix_50, ↓sHelp_fix_53, ↓rf_24_8, ↓sHelp_fix_56, ↓sHelp_fix_57, ↓sHelp_fix_58, ↓sHelp_fix_59, ↓sHelp_fix_62, ↓sHelp_fix_63, ↓rf_0_7, ↓sHelp_fix_66, ↓sHelp_fix_67, ↓rf_19_6, ↓sHelp_fix_70, ↓sHelp_fix_71, List.set_cons_zero, List.set_cons_succ, List.length_cons, List.length_nil, List.contains_cons, List.contains_nil, cat1, brP_d, true_and, and_true, not_false_eq_true, not_true_eq_false, if_true, if_false, Bool.or_false, Bool.false_or, Bool.or_true, Bool.true_or, Bool.false_eq_true, Bool.or_self, false_implies, true_implies, forall_const, and_self, implies_true, true_or, or_true, or_false, false_or, or_self, Classical.not_not, Int.reduceAdd, Int.reduceSub, Int.reduceMul, Int.reduceNeg, Int.reduceToNat, Int.reduceLT, Int.reduceLE, Int.reduceEq, Int.reduceNe, Int.reduceNatCast', Nat.reduceAdd, Nat.reduceSub, Nat.reduceLeDiff, Nat.reduceLT, Nat.reduceEqDiff, Nat.reduceBEq, reduceIte, nx_w, nx_c, up_n, up_s, up_f, ne_eq, Nat.reduceEqDiff, Option.some.injEq, Prod.mk.injEq, exists_eq_left', reduceCtorEq, ob_24, ob_27, ob_0]
  refine trV_use (t_Read_update h hC) ?_
  intro h1 q1
  have k1 := KF.rd q1.1
  have hr := rd_upd q1
  have hv := hr.2.2
  refine ⟨fun c1 => ?_, fun c1 => ⟨_, _, _, _, hv, Or.inl ⟨c1, rfl, k1⟩⟩⟩
  have hv3 := hv
  rw [c1] at hv3
  obtain ⟨q, hu, e9, e8⟩ := verd_u3 hv3
  refine trV_use (t_Prop_update h h1 hC k1 hr) ?_
  rintro h2 ⟨p1, p2⟩
  have k2 := k1.tr p1.kf
  have hr2 := hr.pp p1
  have hin := qPr_in hC.1 p2
  have f24 : h2 24 = h1 24 := p1.1 24 (by decide)
  refine ⟨fun c2 => ?_, fun c2 => ⟨_, _, _, _, hv, Or.inr ⟨c1, q, _, _, _, _, hu, p2, Or.inl ⟨c2, rfl, k2⟩⟩⟩⟩
  have hw0 := qPr_w p2 hC.1.1 (i := 0) (by omega)
  refine use_b (t_Help_mayFixUnasked h h2 hC k2 hr2 q hu (by rw [f24]; exact e9) hw0) (fun hc => ?_) (fun hc => ?_)
  · simp only [one_ne, not_false_eq_true, true_implies, false_implies, true_and, and_true]
    rw [f24, e8]
    have hk5 := (mT_in hu.1 hC.2.2.2.2.2.2.2.1.1).1
    refine trV_use (t_Help_accept h h2 hC hG k2 (mT h q) hk5 (by rw [f24]; exact e8) 0 (h2 30 0) (by omega) rfl hw0 (u3_s80 hC.2.1 hC.2.2.2.2 hu)) ?_
    intro h3 ha
    exact ⟨_, _, _, _, hv, Or.inr ⟨c1, q, _, _, _, _, hu, p2, Or.inr (Or.inr ⟨by omega, hc, rfl, h3, ha, rfl⟩)⟩⟩
  · simp only [not_true_eq_false, true_implies, false_implies, true_and, and_true]
    exact ⟨_, _, _, _, hv, Or.inr ⟨c1, q, _, _, _, _, hu, p2, Or.inr (Or.inl ⟨by omega, hc, rfl, k2⟩)⟩⟩
def chS (g : HP) (i r : Int) (A : Prop) (B : Nat → Int → Prop) : Prop := ∃ v c p x, verdR g (mN g) (fun i => mT g i) (mW g) v c p x ∧ ∃ m fw fd ff, qPr g v m fw fd ff ∧ ((¬ (0 ≤ i ∧ i < m) ∧ r = -2 ∧ A) ∨ ((0 ≤ i ∧ i < m) ∧ ∃ q, u3 g q ∧ B q (fw i.toNat)))
def qChC (g : HP) (i r : Int) (h' : HP) : Prop := chS g i r (KF g h') (fun q w => ∃ h2, accC g (mT g q) w h2 ∧ KF (up h2 19 6 (-1)) h' ∧ sLook (up h2 19 6 (-1)) r)
set_option maxRecDepth 100000 in
set_option maxHeartbeats 4000000 in
theorem t_Help_choose (h : HP) (hC : CI h) (hG : CLg h) (i : Int) : trI mHelp_choose [.inr (.inr 0), .inl i] SH0 h (qChC h i) := by
  refine startI [some (.inr (.inr 0)), some (.inl i)] mHelp_choose_c (go [9999] 400 (k := ?_))
  simp (config := {maxSteps := 1000000}) only [↓pI_c, ↓pR_c, ↓pJ_c, ↓pV_c, ↓popN_0, ↓popN_s, ↓lI_0, ↓lR_0, ↓lJ_0, ↓lI_s, ↓lR_s, ↓lJ_s, ↓okSt_0, ↓okSt_I, ↓okSt_R, ↓okSt_N, ↓okSt_s, ↓rtI_s, ↓rtV_n, ↓brP_t, ↓brP_f, ↓sHelp_choose_0, ↓sHelp_choose_1, ↓rf_0_8, ↓sHelp_choose_4, ↓sHelp_choose_7, ↓sHelp_choose_8, ↓rf_0_9, ↓sHelp_choose_11, ↓sHelp_choose_14, ↓sHelp_choose_15, ↓sHelp_choose_18, ↓sHelp_choose_19, ↓sHelp_choose_20, ↓sHelp_choose_23, ↓rf_27_5, ↓sHelp_choose_26, ↓sHelp_choose_29, ↓sHelp_choose_31, ↓sHelp_choose_32, ↓sHelp_choose_33, ↓sHelp_choose_34, ↓sHelp_choose_37, ↓sHelp_choose_38, ↓rf_0_7, ↓sHelp_choose_41, ↓sHelp_choose_42, ↓rf_19_6, ↓sHelp_choose_45, ↓sHelp_choose_46, ↓sHelp_choose_49, ↓sHelp_choose_52, ↓sHelp_choose_53, ↓sHelp_choose_56, ↓rf_24_7, ↓sHelp_choose_59, List.set_cons_zero, List.set_cons_succ, List.length_cons, List.length_nil, List.contains_cons, List.contains_nil, cat1, brP_d, true_and, and_true, not_false_eq_true, not_true_eq_false, if_true, if_false, Bool.or_false, Bool.false_or, Bool.or_true, Bool.true_or, Bool.false_eq_true, Bool.or_self, false_implies, true_implies, forall_const, and_self, implies_true, true_or, or_true, or_false, false_or, or_self, Classical.not_not, Int.reduceAdd, Int.reduceSub, Int.reduceMul, Int.reduceNeg, Int.reduceToNat, Int.reduceLT, Int.reduceLE, Int.reduceEq, Int.reduceNe, Int.reduceNatCast', Nat.reduceAdd, Nat.reduceSub, Nat.reduceLeDiff, Nat.reduceLT, Nat.reduceEqDiff, Nat.reduceBEq, reduceIte, nx_w, nx_c, up_n, up_s, up_f, ne_eq, Nat.reduceEqDiff, Option.some.injEq, Prod.mk.injEq, exists_eq_left', reduceCtorEq, ob_24, ob_27, ob_0]
  refine trV_use (t_Read_update h hC) ?_
  intro h1 q1
  have k1 := KF.rd q1.1
  have hr := rd_upd q1
  have hv := hr.2.2
  refine trV_use (t_Prop_update h h1 hC k1 hr) ?_
  rintro h2 ⟨p1, p2⟩
  have k2 := k1.tr p1.kf
  have hr2 := hr.pp p1
  have hin := qPr_in hC.1 p2
  have f24 : h2 24 = h1 24 := p1.1 24 (by decide)
  refine ⟨fun c1 => ⟨_, _, _, _, hv, _, _, _, _, p2, Or.inl ⟨by omega, rfl, k2⟩⟩, fun c1 => ⟨fun c2 => ?_, fun c2 => ⟨_, _, _, _, hv, _, _, _, _, p2, Or.inl ⟨by omega, rfl, k2⟩⟩⟩⟩
  have v3 : h1 24 7 = 3 := by
    rcases p2 with z | z
    · exact z.1
    · omega
  have hv3 := hv
  rw [v3] at hv3
  obtain ⟨q, hu, e9, e8⟩ := verd_u3 hv3
  have hk5 := (mT_in hu.1 hC.2.2.2.2.2.2.2.1.1).1
  have hwi := qPr_w p2 hC.1.1 (i := i.toNat) (by omega)
  refine trV_use (t_Help_accept h h2 hC hG k2 (mT h q) hk5 (by rw [f24]; exact e8) i (h2 30 i.toNat) (by omega) rfl hwi (u3_s80 hC.2.1 hC.2.2.2.2 hu)) ?_
  intro h3 ha
  obtain ⟨n, h0', h1', fn, al, _, _, _⟩ := acc_L ha
  have hC3 := acL_CI hC hu fn.1 al (-1)
  refine trV_use (t_Read_update _ hC3) ?_
  rintro h4 ⟨u1, u2, u3', u4⟩
  exact ⟨_, _, _, _, hv, _, _, _, _, p2, Or.inr ⟨by omega, q, hu, h3, ha, KF.rd u1, _, _, _, u4⟩⟩
