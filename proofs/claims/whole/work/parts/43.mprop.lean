/-! proposals of the reference -/
def jdG (g h : HP) : Prop := h 43 26 = mN g ∧ (∀ i : Nat, (i : Int) < mN g → h 62 i = mT g i ∧ h 63 i = mW g i)
set_option maxRecDepth 100000 in
set_option maxHeartbeats 4000000 in
theorem l_Model_wouldFit (g h : HP) (hL : CL0 g) (hj : jdG g h) (q : Nat) (hu : u3 g q) (h30 : h 43 30 = mT g q) (w : Int) (P : Option AV → HP → Prop) (hX : Wn Z4 mModel_wouldFit SH0 21 [some (.inr (.inr 43)), some (.inl w), some (.inl q), none] [] h P) : ∀ (d k : Nat), q - k < d → k ≤ q → Wn Z4 mModel_wouldFit SH0 2 [some (.inr (.inr 43)), some (.inl w), some (.inl k), none] [] h P := by
  have hn := mN_in hL
  have hq := hu.1
  intro d
  induction d with
  | zero => intro k h1 h2; omega
  | succ d ih =>
    intro k h1 h2
    have e62 := (hj.2 k (by omega)).1
    have ek : ((k : Int)).toNat = k := by omega
    refine go [2,21] 400 (k := ?_)
    simp (config := {maxSteps := 1000000}) only [↓pI_c, ↓pR_c, ↓pJ_c, ↓pV_c, ↓popN_0, ↓popN_s, ↓lI_0, ↓lR_0, ↓lJ_0, ↓lI_s, ↓lR_s, ↓lJ_s, ↓okSt_0, ↓okSt_I, ↓okSt_R, ↓okSt_N, ↓okSt_s, ↓rtI_s, ↓rtV_n, ↓brP_t, ↓brP_f, ↓sModel_wouldFit_0, ↓sModel_wouldFit_1, ↓sModel_wouldFit_2, ↓sModel_wouldFit_3, ↓rf_43_27, ↓sModel_wouldFit_6, ↓sModel_wouldFit_7, ↓sModel_wouldFit_8, ↓sModel_wouldFit_9, ↓rf_43_30, ↓sModel_wouldFit_12, ↓sModel_wouldFit_15, ↓sModel_wouldFit_18, ↓sModel_wouldFit_21, ↓sModel_wouldFit_22, ↓rf_43_28, ↓sModel_wouldFit_25, ↓sModel_wouldFit_26, ↓sModel_wouldFit_27, ↓sModel_wouldFit_28, ↓sModel_wouldFit_29, ↓sModel_wouldFit_32, ↓sModel_wouldFit_33, ↓sModel_wouldFit_36, ↓sModel_wouldFit_37, ↓sModel_wouldFit_40, ↓sModel_wouldFit_41, ↓sModel_wouldFit_42, ↓sModel_wouldFit_43, ↓sModel_wouldFit_46, ↓sModel_wouldFit_47, ↓sModel_wouldFit_48, ↓sModel_wouldFit_49, ↓sModel_wouldFit_50, ↓ln_62, ↓ln_63, List.set_cons_zero, List.set_cons_succ, List.length_cons, List.length_nil, List.contains_cons, List.contains_nil, cat1, brP_d, true_and, and_true, not_false_eq_true, not_true_eq_false, if_true, if_false, Bool.or_false, Bool.false_or, Bool.or_true, Bool.true_or, Bool.false_eq_true, Bool.or_self, false_implies, true_implies, forall_const, and_self, implies_true, true_or, or_true, or_false, false_or, or_self, Classical.not_not, Int.reduceAdd, Int.reduceSub, Int.reduceMul, Int.reduceNeg, Int.reduceToNat, Int.reduceLT, Int.reduceLE, Int.reduceEq, Int.reduceNe, Int.reduceNatCast', Nat.reduceAdd, Nat.reduceSub, Nat.reduceLeDiff, Nat.reduceLT, Nat.reduceEqDiff, Nat.reduceBEq, reduceIte, nx_w, nx_c, up_n, up_s, up_f, ne_eq, Nat.reduceEqDiff, Option.some.injEq, Prod.mk.injEq, exists_eq_left', reduceCtorEq, ob_43, ek, e62, h30]
    have hne : k < q → ¬ ((mT g k : Nat) : Int) = (mT g q : Nat) := fun z => by
      have := (mT_in hq hL.2.2.2.1.1).2 k z
      omega
    have stop : ¬ k < q → Wn Z4 mModel_wouldFit SH0 21 [some (.inr (.inr 43)), some (.inl w), some (.inl k), none] [] h P := fun z => by
      have e : q = k := by omega
      rw [e] at hX
      exact hX
    have step : k < q → Wn Z4 mModel_wouldFit SH0 2 [some (.inr (.inr 43)), some (.inl w), some (.inl (wr (k + 1))), none] [] h P := fun z => by
      rw [wr_id (x := (k : Int) + 1) (by omega) (by omega)]
      have := ih (k + 1) (by omega) (by omega)
      push_cast at this
      exact this
    refine ⟨by omega, fun h5 => ?_, fun h5 => ?_⟩
    · exact stop (fun z => hne z h5)
    · exact step (by rcases Nat.lt_or_ge k q with z | z; exact z; exact absurd (by rw [show k = q by omega]) h5)
set_option maxRecDepth 100000 in
set_option maxHeartbeats 4000000 in
theorem t_Model_wouldFit (g h : HP) (hC : CI g) (hm : CM g h) (hj : jdG g h) (q w : Nat) (hu : u3 g q) (h30 : h 43 30 = mT g q) (hw : (w : Int) < g 10 4) : trI mModel_wouldFit [.inr (.inr 43), .inl w] SH0 h (fun r h' => h' = h ∧ r = wfI g q w) := by
  obtain ⟨hW, hN, hR, hS, hL⟩ := hC
  have hn := mN_in hL
  have hqn := hu.1
  have h60 := hW.2.1
  have e63 := (hj.2 q hu.1).2
  rw [hu.2.1] at e63
  have eq : ((q : Int)).toNat = q := by omega
  have gn : up h 63 q w 43 26 = mN g := by rw [up_n (by decide)]; exact hj.1
  have ga : ∀ i : Nat, (i : Int) < mN g → up h 63 q w 63 i = rpl (mW g) q w i := fun i hi => by
    rw [up_a]
    unfold rpl
    rw [(hj.2 i hi).2]
  have hwd : ∀ i : Nat, (i : Int) < mN g → 0 ≤ rpl (mW g) q w i ∧ rpl (mW g) q w i < g 10 4 := fun i hi => by
    unfold rpl
    by_cases z : i = q
    · rw [if_pos z]; omega
    · rw [if_neg z]
      rcases wd_in hN (mT g i) with y | y
      · exact absurd y (u3_other hu hi z)
      · exact y
  have hm' : CM g (up h 63 q w) := hm.ms (MS.rf.up (by decide) rfl)
  have back : up (up h 63 q w) 63 q (-1) = h := up_back e63
  refine startI [some (.inr (.inr 43)), some (.inl w), none, none] mModel_wouldFit_c (go [2] 400 (k := ?_))
  simp (config := {maxSteps := 1000000}) only [↓pI_c, ↓pR_c, ↓pJ_c, ↓pV_c, ↓popN_0, ↓popN_s, ↓lI_0, ↓lR_0, ↓lJ_0, ↓lI_s, ↓lR_s, ↓lJ_s, ↓okSt_0, ↓okSt_I, ↓okSt_R, ↓okSt_N, ↓okSt_s, ↓rtI_s, ↓rtV_n, ↓brP_t, ↓brP_f, ↓sModel_wouldFit_0, ↓sModel_wouldFit_1, ↓sModel_wouldFit_2, ↓sModel_wouldFit_3, ↓rf_43_27, ↓sModel_wouldFit_6, ↓sModel_wouldFit_7, ↓sModel_wouldFit_8, ↓sModel_wouldFit_9, ↓rf_43_30, ↓sModel_wouldFit_12, ↓sModel_wouldFit_15, ↓sModel_wouldFit_18, ↓sModel_wouldFit_21, ↓sModel_wouldFit_22, ↓rf_43_28, ↓sModel_wouldFit_25, ↓sModel_wouldFit_26, ↓sModel_wouldFit_27, ↓sModel_wouldFit_28, ↓sModel_wouldFit_29, ↓sModel_wouldFit_32, ↓sModel_wouldFit_33, ↓sModel_wouldFit_36, ↓sModel_wouldFit_37, ↓sModel_wouldFit_40, ↓sModel_wouldFit_41, ↓sModel_wouldFit_42, ↓sModel_wouldFit_43, ↓sModel_wouldFit_46, ↓sModel_wouldFit_47, ↓sModel_wouldFit_48, ↓sModel_wouldFit_49, ↓sModel_wouldFit_50, ↓ln_62, ↓ln_63, List.set_cons_zero, List.set_cons_succ, List.length_cons, List.length_nil, List.contains_cons, List.contains_nil, cat1, brP_d, true_and, and_true, not_false_eq_true, not_true_eq_false, if_true, if_false, Bool.or_false, Bool.false_or, Bool.or_true, Bool.true_or, Bool.false_eq_true, Bool.or_self, false_implies, true_implies, forall_const, and_self, implies_true, true_or, or_true, or_false, false_or, or_self, Classical.not_not, Int.reduceAdd, Int.reduceSub, Int.reduceMul, Int.reduceNeg, Int.reduceToNat, Int.reduceLT, Int.reduceLE, Int.reduceEq, Int.reduceNe, Int.reduceNatCast', Nat.reduceAdd, Nat.reduceSub, Nat.reduceLeDiff, Nat.reduceLT, Nat.reduceEqDiff, Nat.reduceBEq, reduceIte, nx_w, nx_c, up_n, up_s, up_f, ne_eq, Nat.reduceEqDiff, Option.some.injEq, Prod.mk.injEq, exists_eq_left', reduceCtorEq, ob_43]
  refine l_Model_wouldFit g h hL hj q hu h30 w _ ?_ (q + 1) 0 (by omega) (by omega)
  refine go [9999] 400 (k := ?_)
  simp (config := {maxSteps := 1000000}) only [↓pI_c, ↓pR_c, ↓pJ_c, ↓pV_c, ↓popN_0, ↓popN_s, ↓lI_0, ↓lR_0, ↓lJ_0, ↓lI_s, ↓lR_s, ↓lJ_s, ↓okSt_0, ↓okSt_I, ↓okSt_R, ↓okSt_N, ↓okSt_s, ↓rtI_s, ↓rtV_n, ↓brP_t, ↓brP_f, ↓sModel_wouldFit_0, ↓sModel_wouldFit_1, ↓sModel_wouldFit_2, ↓sModel_wouldFit_3, ↓rf_43_27, ↓sModel_wouldFit_6, ↓sModel_wouldFit_7, ↓sModel_wouldFit_8, ↓sModel_wouldFit_9, ↓rf_43_30, ↓sModel_wouldFit_12, ↓sModel_wouldFit_15, ↓sModel_wouldFit_18, ↓sModel_wouldFit_21, ↓sModel_wouldFit_22, ↓rf_43_28, ↓sModel_wouldFit_25, ↓sModel_wouldFit_26, ↓sModel_wouldFit_27, ↓sModel_wouldFit_28, ↓sModel_wouldFit_29, ↓sModel_wouldFit_32, ↓sModel_wouldFit_33, ↓sModel_wouldFit_36, ↓sModel_wouldFit_37, ↓sModel_wouldFit_40, ↓sModel_wouldFit_41, ↓sModel_wouldFit_42, ↓sModel_wouldFit_43, ↓sModel_wouldFit_46, ↓sModel_wouldFit_47, ↓sModel_wouldFit_48, ↓sModel_wouldFit_49, ↓sModel_wouldFit_50, ↓ln_62, ↓ln_63, List.set_cons_zero, List.set_cons_succ, List.length_cons, List.length_nil, List.contains_cons, List.contains_nil, cat1, brP_d, true_and, and_true, not_false_eq_true, not_true_eq_false, if_true, if_false, Bool.or_false, Bool.false_or, Bool.or_true, Bool.true_or, Bool.false_eq_true, Bool.or_self, false_implies, true_implies, forall_const, and_self, implies_true, true_or, or_true, or_false, false_or, or_self, Classical.not_not, Int.reduceAdd, Int.reduceSub, Int.reduceMul, Int.reduceNeg, Int.reduceToNat, Int.reduceLT, Int.reduceLE, Int.reduceEq, Int.reduceNe, Int.reduceNatCast', Nat.reduceAdd, Nat.reduceSub, Nat.reduceLeDiff, Nat.reduceLT, Nat.reduceEqDiff, Nat.reduceBEq, reduceIte, nx_w, nx_c, up_n, up_s, up_f, ne_eq, Nat.reduceEqDiff, Option.some.injEq, Prod.mk.injEq, exists_eq_left', reduceCtorEq, ob_43]
  rw [eq]
  refine ⟨by omega, ?_⟩
  refine use_q (t_Model_fitting g (up h 63 q w) hW hR hm'.1 hm'.2.2.1 (by rw [gn]; exact hn) (by rw [gn]; intro i hi; rw [ga i hi]; exact Or.inr (hwd i hi))) ?_
  intro x hx
  rw [gn] at hx
  simp only [back]
  have hcg : gdW g (up h 63 q w 63) (mN g) ↔ gdW g (rpl (mW g) q w) (mN g) := by
    unfold gdW
    exact ⟨fun z => ⟨z.1, fun i hi => by rw [← ga i hi]; exact z.2 i hi⟩, fun z => ⟨z.1, fun i hi => by rw [ga i hi]; exact z.2 i hi⟩⟩
  unfold fittM at hx
  rw [hcg, fitF_wf (by omega) ga] at hx
  rcases hx with ⟨c1, c2⟩ | ⟨c1, rfl⟩
  · have hex := fitF_ex c2
    refine ⟨fun h3 => ⟨by omega, trivial, ?_⟩, fun h3 => ⟨by omega, trivial, ?_⟩⟩
    all_goals unfold wfI
    · rw [if_neg (fun z => (hex.mpr z.2) h3)]
    · rw [if_pos ⟨c1, hex.mp h3⟩]
  · refine ⟨fun h3 => ⟨by omega, trivial, ?_⟩, fun h3 => absurd rfl h3⟩
    unfold wfI
    rw [if_neg (fun z => c1 z.1)]
def miF (h0 h : HP) : Prop := (∀ a, a ≠ 43 → a ≠ 66 → a ≠ 67 → a ≠ 68 → h a = h0 a) ∧ ∀ b, b ≠ 35 → h 43 b = h0 43 b
set_option maxRecDepth 100000 in
set_option maxHeartbeats 4000000 in
theorem l1_Model_propose (h0 : HP) (n w c f : Int) (s : Nat × (Nat → Int) × (Nat → Int) × (Nat → Int)) (hf : f = 0 ∨ f = 1) (hw : 0 ≤ w ∧ w < 60) (hs : prA (h0 43 35) (h0 66) (h0 67) (h0 68) s) (hb : bA s) (hs60 : s.1 < 60) (P : Option AV → HP → Prop) (hX : ∀ h' x5, miF h0 h' → prA (h' 43 35) (h' 66) (h' 67) (h' 68) (insS s w c f) → Wn Z4 mModel_propose SH0 40 [some (.inr (.inr 43)), some (.inl n), some (.inl (w + 1)), some (.inl c), some (.inl f), x5] [] h' P) : ∀ (d p : Nat) (h : HP), p < d → p ≤ s.1 → pl (h0 67) (h0 68) c f p = pl (h0 67) (h0 68) c f s.1 → (∀ a, a ≠ 66 → a ≠ 67 → a ≠ 68 → h a = h0 a) → shP (h0 66) (h 66) s.1 p → shP (h0 67) (h 67) s.1 p → shP (h0 68) (h 68) s.1 p → Wn Z4 mModel_propose SH0 138 [some (.inr (.inr 43)), some (.inl n), some (.inl w), some (.inl c), some (.inl f), some (.inl p)] [] h P := by
  intro d
  induction d with
  | zero => intro p h h1 h2; omega
  | succ d ih =>
    intro p h h1 h2 h3 h4 h5 h6 h7
    have g43 : h 43 = h0 43 := h4 43 (by decide) (by decide) (by decide)
    have e5 := hs.1
    have ep : ((p : Int)).toNat = p := by omega
    have fin : p = pl (h0 67) (h0 68) c f s.1 → Wn Z4 mModel_propose SH0 40 [some (.inr (.inr 43)), some (.inl n), some (.inl (w + 1)), some (.inl c), some (.inl f), some (.inl p)] [] (up (up (up (up h 66 p w) 67 p c) 68 p f) 43 35 (h0 43 35 + 1)) P := by
      intro hp
      refine hX _ _ ⟨fun a a1 a2 a3 a4 => by rw [up_ne a1, up_ne a4, up_ne a3, up_ne a2]; exact h4 a a2 a3 a4, fun b hb => by rw [up_f hb, up_n (by decide), up_n (by decide), up_n (by decide), g43]⟩ ?_
      rw [up_s]
      exact prA_ins hs hp h5 h6 h7 _ _ _ (fun b => by rw [up_n (by decide), up_n (by decide), up_n (by decide), up_a]) (fun b => by rw [up_n (by decide), up_n (by decide), up_a, up_n (by decide)]) (fun b => by rw [up_n (by decide), up_a, up_n (by decide), up_n (by decide)])
    refine go [138,40] 400 (k := ?_)
    simp (config := {maxSteps := 1000000}) only [↓pI_c, ↓pR_c, ↓pJ_c, ↓pV_c, ↓popN_0, ↓popN_s, ↓lI_0, ↓lR_0, ↓lJ_0, ↓lI_s, ↓lR_s, ↓lJ_s, ↓okSt_0, ↓okSt_I, ↓okSt_R, ↓okSt_N, ↓okSt_s, ↓rtI_s, ↓rtV_n, ↓brP_t, ↓brP_f, ↓sModel_propose_0, ↓sModel_propose_1, ↓sModel_propose_4, ↓sModel_propose_5, ↓sModel_propose_6, ↓rf_43_35, ↓sModel_propose_9, ↓sModel_propose_10, ↓rf_43_29, ↓sModel_propose_13, ↓sModel_propose_14, ↓sModel_propose_17, ↓sModel_propose_18, ↓rf_43_14, ↓sModel_propose_21, ↓sModel_propose_23, ↓sModel_propose_24, ↓sModel_propose_27, ↓sModel_propose_28, ↓sModel_propose_29, ↓rf_43_24, ↓sModel_propose_32, ↓sModel_propose_33, ↓rf_43_30, ↓sModel_propose_36, ↓sModel_propose_37, ↓sModel_propose_38, ↓sModel_propose_39, ↓sModel_propose_40, ↓sModel_propose_41, ↓sModel_propose_42, ↓rf_43_1, ↓sModel_propose_45, ↓sModel_propose_48, ↓sModel_propose_49, ↓sModel_propose_50, ↓sModel_propose_53, ↓sModel_propose_56, ↓sModel_propose_57, ↓rf_43_2, ↓sModel_propose_60, ↓sModel_propose_61, ↓sModel_propose_62, ↓sModel_propose_63, ↓sModel_propose_66, ↓sModel_propose_67, ↓sModel_propose_68, ↓rf_43_23, ↓sModel_propose_71, ↓sModel_propose_72, ↓sModel_propose_75, ↓sModel_propose_76, ↓sModel_propose_77, ↓sModel_propose_78, ↓sModel_propose_81, ↓sModel_propose_82, ↓rf_43_34, ↓sModel_propose_85, ↓sModel_propose_86, ↓sModel_propose_87, ↓sModel_propose_88, ↓sModel_propose_91, ↓sModel_propose_92, ↓sModel_propose_93, ↓sModel_propose_96, ↓sModel_propose_97, ↓sModel_propose_98, ↓sModel_propose_101, ↓sModel_propose_102, ↓sModel_propose_103, ↓sModel_propose_104, ↓sModel_propose_105, ↓sModel_propose_106, ↓sModel_propose_109, ↓sModel_propose_110, ↓sModel_propose_111, ↓sModel_propose_112, ↓rf_43_8, ↓sModel_propose_115, ↓sModel_propose_116, ↓rf_43_33, ↓sModel_propose_119, ↓sModel_propose_120, ↓sModel_propose_121, ↓sModel_propose_122, ↓sModel_propose_125, ↓sModel_propose_126, ↓sModel_propose_127, ↓sModel_propose_130, ↓sModel_propose_132, ↓sModel_propose_133, ↓sModel_propose_136, ↓sModel_propose_138, ↓sModel_propose_140, ↓sModel_propose_143, ↓sModel_propose_144, ↓rf_43_37, ↓sModel_propose_147, ↓sModel_propose_149, ↓sModel_propose_150, ↓sModel_propose_151, ↓sModel_propose_152, ↓sModel_propose_153, ↓sModel_propose_156, ↓sModel_propose_157, ↓sModel_propose_160, ↓sModel_propose_162, ↓sModel_propose_163, ↓sModel_propose_164, ↓sModel_propose_165, ↓sModel_propose_166, ↓sModel_propose_169, ↓sModel_propose_171, ↓sModel_propose_174, ↓sModel_propose_175, ↓rf_43_38, ↓sModel_propose_178, ↓sModel_propose_180, ↓sModel_propose_181, ↓sModel_propose_182, ↓sModel_propose_183, ↓sModel_propose_186, ↓sModel_propose_187, ↓rf_43_36, ↓sModel_propose_190, ↓sModel_propose_192, ↓sModel_propose_193, ↓sModel_propose_196, ↓sModel_propose_198, ↓sModel_propose_199, ↓sModel_propose_200, ↓sModel_propose_201, ↓sModel_propose_202, ↓sModel_propose_203, ↓sModel_propose_206, ↓sModel_propose_208, ↓sModel_propose_209, ↓sModel_propose_212, ↓sModel_propose_214, ↓sModel_propose_215, ↓sModel_propose_216, ↓sModel_propose_217, ↓sModel_propose_218, ↓sModel_propose_219, ↓sModel_propose_222, ↓sModel_propose_224, ↓sModel_propose_225, ↓sModel_propose_228, ↓sModel_propose_230, ↓sModel_propose_231, ↓sModel_propose_232, ↓sModel_propose_233, ↓sModel_propose_234, ↓sModel_propose_237, ↓sModel_propose_240, ↓sModel_propose_241, ↓sModel_propose_244, ↓sModel_propose_246, ↓sModel_propose_247, ↓sModel_propose_248, ↓sModel_propose_249, ↓sModel_propose_252, ↓sModel_propose_254, ↓sModel_propose_255, ↓sModel_propose_256, ↓sModel_propose_257, ↓sModel_propose_260, ↓sModel_propose_262, ↓sModel_propose_264, ↓sModel_propose_265, ↓sModel_propose_266, ↓sModel_propose_267, ↓sModel_propose_270, ↓sModel_propose_271, ↓sModel_propose_272, ↓sModel_propose_275, ↓sModel_propose_278, ↓sModel_propose_281, ↓ln_44, ↓ln_49, ↓ln_54, ↓ln_59, ↓ln_60, ↓ln_66, ↓ln_67, ↓ln_68, List.set_cons_zero, List.set_cons_succ, List.length_cons, List.length_nil, List.contains_cons, List.contains_nil, cat1, brP_d, true_and, and_true, not_false_eq_true, not_true_eq_false, if_true, if_false, Bool.or_false, Bool.false_or, Bool.or_true, Bool.true_or, Bool.false_eq_true, Bool.or_self, false_implies, true_implies, forall_const, and_self, implies_true, true_or, or_true, or_false, false_or, or_self, Classical.not_not, Int.reduceAdd, Int.reduceSub, Int.reduceMul, Int.reduceNeg, Int.reduceToNat, Int.reduceLT, Int.reduceLE, Int.reduceEq, Int.reduceNe, Int.reduceNatCast', Nat.reduceAdd, Nat.reduceSub, Nat.reduceLeDiff, Nat.reduceLT, Nat.reduceEqDiff, Nat.reduceBEq, reduceIte, nx_w, nx_c, up_n, up_s, up_f, ne_eq, Nat.reduceEqDiff, Option.some.injEq, Prod.mk.injEq, exists_eq_left', reduceCtorEq, ob_43, g43]
    rw [wr_id (x := h0 43 35 + 1) (by omega) (by omega), wr_id (x := w + 1) (by omega) (by omega), ep]
    refine ⟨fun h8 => ⟨by omega, by omega, by omega, hf, fin ?_⟩, fun h8 => ?_⟩
    · rw [show p = 0 by omega] at h3 ⊢
      exact h3
    · rw [wr_id (x := (p : Int) - 1) (by omega) (by omega), wr_id (x := (p : Int) + -1) (by omega) (by omega)]
      obtain ⟨m, rfl⟩ : ∃ m : Nat, p = m + 1 := ⟨p - 1, by omega⟩
      have em : (((m + 1 : Nat) : Int) - 1).toNat = m := by omega
      have h31 : h 67 m = h0 67 m := h6.1 m (by omega)
      have h32 : h 68 m = h0 68 m := h7.1 m (by omega)
      have hbm : h0 68 m = 0 ∨ h0 68 m = 1 := by rw [(hs.2 m (by omega)).2.2]; exact hb m (by omega)
      have more : bef c f (h0 67 m) (h0 68 m) → Wn Z4 mModel_propose SH0 138 [some (.inr (.inr 43)), some (.inl n), some (.inl w), some (.inl c), some (.inl f), some (.inl (((m + 1 : Nat) : Int) + -1))] [] (up (up (up h 66 (m + 1) (h 66 m)) 67 (m + 1) (h 67 m)) 68 (m + 1) (h 68 m)) P := by
        intro hc
        rw [show ((m + 1 : Nat) : Int) + -1 = (m : Int) by omega]
        refine ih m _ (by omega) (by omega) ?_ (fun a a2 a3 a4 => by rw [up_ne a4, up_ne a3, up_ne a2]; exact h4 a a2 a3 a4) ?_ ?_ ?_
        · rcases pl_s (h0 67) (h0 68) c f m with ⟨_, e⟩ | ⟨e, _⟩
          · rw [← e]; exact h3
          · exact absurd hc e
        · have : (up (up (up h 66 (m + 1) (h 66 m)) 67 (m + 1) (h 67 m)) 68 (m + 1) (h 68 m)) 66 = fun b => if b = m + 1 then h 66 m else h 66 b := by
            funext b
            rw [up_n (by decide), up_n (by decide), up_a]
          rw [this]
          exact shP_s h5 rfl
        · have : (up (up (up h 66 (m + 1) (h 66 m)) 67 (m + 1) (h 67 m)) 68 (m + 1) (h 68 m)) 67 = fun b => if b = m + 1 then h 67 m else h 67 b := by
            funext b
            rw [up_n (by decide), up_a, up_n (by decide)]
          rw [this]
          exact shP_s h6 rfl
        · have : (up (up (up h 66 (m + 1) (h 66 m)) 67 (m + 1) (h 67 m)) 68 (m + 1) (h 68 m)) 68 = fun b => if b = m + 1 then h 68 m else h 68 b := by
            funext b
            rw [up_a, up_n (by decide), up_n (by decide)]
          rw [this]
          exact shP_s h7 rfl
      have done : ¬ bef c f (h0 67 m) (h0 68 m) → Wn Z4 mModel_propose SH0 40 [some (.inr (.inr 43)), some (.inl n), some (.inl (w + 1)), some (.inl c), some (.inl f), some (.inl (((m + 1 : Nat) : Int)))] [] (up (up (up (up h 66 (m + 1) w) 67 (m + 1) c) 68 (m + 1) f) 43 35 (h0 43 35 + 1)) P := by
        intro hc
        refine fin ?_
        rcases pl_s (h0 67) (h0 68) c f m with ⟨e, _⟩ | ⟨_, e⟩
        · exact absurd e hc
        · rw [← h3, e]
      simp only [em]
      unfold bef at more done
      rw [← h31, ← h32] at more done
      rw [← h32] at hbm
      refine ⟨by omega, fun c1 => ⟨by omega, by omega, by omega, by omega, by omega, by omega, hbm, more (Or.inl c1)⟩, fun c1 => ⟨by omega, fun c2 => ⟨by omega, by omega, by omega, hf, done (by omega)⟩, fun c2 => ⟨fun c3 => ⟨by omega, by omega, by omega, hf, done (by omega)⟩, fun c3 => ⟨by omega, fun c4 => ⟨by omega, by omega, by omega, hf, done (by omega)⟩, fun c4 => ⟨by omega, by omega, by omega, by omega, by omega, by omega, hbm, more (Or.inr ⟨c2.symm, c3, c4⟩)⟩⟩⟩⟩⟩
def mpF (h0 h : HP) : Prop := (∀ a, a ≠ 43 → a ≠ 64 → a ≠ 65 → a ≠ 66 → a ≠ 67 → a ≠ 68 → h a = h0 a) ∧ ∀ b, b ≠ 33 → b ≠ 34 → b ≠ 35 → h 43 b = h0 43 b
theorem mpF.rf {h : HP} : mpF h h := ⟨fun _ _ _ _ _ _ _ => rfl, fun _ _ _ _ => rfl⟩
theorem mpF.tr {a b c : HP} (h1 : mpF a b) (h2 : mpF b c) : mpF a c := ⟨fun k a1 a2 a3 a4 a5 a6 => (h2.1 k a1 a2 a3 a4 a5 a6).trans (h1.1 k a1 a2 a3 a4 a5 a6), fun k a1 a2 a3 => (h2.2 k a1 a2 a3).trans (h1.2 k a1 a2 a3)⟩
theorem MS.mp {h0 h : HP} (e : mpF h0 h) : MS h0 h := ⟨fun k hk => e.1 k (by omega) (by omega) (by omega) (by omega) (by omega) (by omega), fun k j hp => by
  by_cases z : k = 43
  · subst z
    exact e.2 j (by rintro rfl; cases hp) (by rintro rfl; cases hp) (by rintro rfl; cases hp)
  · rw [e.1 k z (by rintro rfl; cases hp) (by rintro rfl; cases hp) (by rintro rfl; cases hp) (by rintro rfl; cases hp) (by rintro rfl; cases hp)]⟩
theorem mpF.nr {h0 h : HP} (e : nrF h0 h) : mpF h0 h := ⟨fun k a1 a2 a3 _ _ _ => e.1 k a1 a2 a3, fun k a1 a2 _ => e.2 k a1 a2⟩
theorem mpF.mi {h0 h : HP} (e : miF h0 h) : mpF h0 h := ⟨fun k a1 _ _ a4 a5 a6 => e.1 k a1 a4 a5 a6, fun k _ _ a3 => e.2 k a3⟩
theorem jdG.mp {g h h' : HP} (hp : mpF h h') (hj : jdG g h) : jdG g h' := by
  unfold jdG at *
  rw [hp.2 26 (by decide) (by decide) (by decide), hp.1 62 (by decide) (by decide) (by decide) (by decide) (by decide) (by decide), hp.1 63 (by decide) (by decide) (by decide) (by decide) (by decide) (by decide)]
  exact hj
theorem u3_80 {g : HP} (hN : CN g) (hL : CL0 g) {q : Nat} (hu : u3 g q) : g 23 (mT g q) ≤ 80 := by
  have hmT := (mT_in hu.1 hL.2.2.2.1.1).1
  have hr := hL.2.2.2.1.2.2.1 (mT g q) hmT
  rcases Int.lt_or_le 80 (g 19 4) with z | z
  · exact absurd hu.2.1 ((wd_known hN (mT g q)).mpr (hL.2.2.2.2.2 z (mT g q) hmT))
  · omega
set_option maxRecDepth 100000 in
set_option maxHeartbeats 4000000 in
theorem l_Model_propose (g h0 : HP) (hC : CI g) (hm : CM g h0) (hj : jdG g h0) (ht : qTyp g h0) (q : Nat) (hu : u3 g q) (h30 : h0 43 30 = mT g q) : ∀ (d w : Nat) (h : HP) (x3 x4 x5 : Option AV), g 10 4 - w < d → (w : Int) ≤ g 10 4 → mpF h0 h → prA (h 43 35) (h 66) (h 67) (h 68) (prS g q w) → Wn Z4 mModel_propose SH0 40 [some (.inr (.inr 43)), some (.inl (g 23 (mT g q))), some (.inl w), x3, x4, x5] [] h (rtV (fun h' => mpF h0 h' ∧ prA (h' 43 35) (h' 66) (h' 67) (h' 68) (prS g q (g 10 4).toNat))) := by
  have hL := hC.2.2.2.2
  have h60 := hC.1.2.1
  have hmT := (mT_in hu.1 hL.2.2.2.1.1).1
  have h10 := hL.2.2.2.1.2.1
  have h80 := u3_80 hC.2.1 hL hu
  have hty' := ty_in hL hmT
  have eT : ((mT g q : Nat) : Int).toNat = mT g q := by omega
  intro d
  induction d with
  | zero => intro w h x3 x4 x5 h1 h2; omega
  | succ d ih =>
    intro w h x3 x4 x5 h1 h2 h3 h4
    have hm' : CM g h := hm.ms (MS.mp h3)
    have hj' := hj.mp h3
    have e1 := hm'.1.1
    have e30 : h 43 30 = mT g q := by rw [h3.2 30 (by decide) (by decide) (by decide)]; exact h30
    have e59 : h 59 (mT g q) = g 22 (mT g q) := by rw [h3.1 59 (by decide) (by decide) (by decide) (by decide) (by decide) (by decide)]; exact (ht.2 _ hmT).1
    have nx : ¬ g 10 4 ≤ (w : Int) → ∀ h' y3 y4 y5, mpF h0 h' → prA (h' 43 35) (h' 66) (h' 67) (h' 68) (prS g q (w + 1)) → Wn Z4 mModel_propose SH0 40 [some (.inr (.inr 43)), some (.inl (g 23 (mT g q))), some (.inl ((w : Int) + 1)), y3, y4, y5] [] h' (rtV (fun h' => mpF h0 h' ∧ prA (h' 43 35) (h' 66) (h' 67) (h' 68) (prS g q (g 10 4).toNat))) := by
      intro z h' y3 y4 y5 a1 a2
      have := ih (w + 1) h' y3 y4 y5 (by push_cast; omega) (by push_cast; omega) a1 a2
      push_cast at this
      exact this
    have hple := prS_le g q w
    have hps := prS_s g q w
    refine go [40,138] 400 (k := ?_)
    simp (config := {maxSteps := 1000000}) only [↓pI_c, ↓pR_c, ↓pJ_c, ↓pV_c, ↓popN_0, ↓popN_s, ↓lI_0, ↓lR_0, ↓lJ_0, ↓lI_s, ↓lR_s, ↓lJ_s, ↓okSt_0, ↓okSt_I, ↓okSt_R, ↓okSt_N, ↓okSt_s, ↓rtI_s, ↓rtV_n, ↓brP_t, ↓brP_f, ↓sModel_propose_0, ↓sModel_propose_1, ↓sModel_propose_4, ↓sModel_propose_5, ↓sModel_propose_6, ↓rf_43_35, ↓sModel_propose_9, ↓sModel_propose_10, ↓rf_43_29, ↓sModel_propose_13, ↓sModel_propose_14, ↓sModel_propose_17, ↓sModel_propose_18, ↓rf_43_14, ↓sModel_propose_21, ↓sModel_propose_23, ↓sModel_propose_24, ↓sModel_propose_27, ↓sModel_propose_28, ↓sModel_propose_29, ↓rf_43_24, ↓sModel_propose_32, ↓sModel_propose_33, ↓rf_43_30, ↓sModel_propose_36, ↓sModel_propose_37, ↓sModel_propose_38, ↓sModel_propose_39, ↓sModel_propose_40, ↓sModel_propose_41, ↓sModel_propose_42, ↓rf_43_1, ↓sModel_propose_45, ↓sModel_propose_48, ↓sModel_propose_49, ↓sModel_propose_50, ↓sModel_propose_53, ↓sModel_propose_56, ↓sModel_propose_57, ↓rf_43_2, ↓sModel_propose_60, ↓sModel_propose_61, ↓sModel_propose_62, ↓sModel_propose_63, ↓sModel_propose_66, ↓sModel_propose_67, ↓sModel_propose_68, ↓rf_43_23, ↓sModel_propose_71, ↓sModel_propose_72, ↓sModel_propose_75, ↓sModel_propose_76, ↓sModel_propose_77, ↓sModel_propose_78, ↓sModel_propose_81, ↓sModel_propose_82, ↓rf_43_34, ↓sModel_propose_85, ↓sModel_propose_86, ↓sModel_propose_87, ↓sModel_propose_88, ↓sModel_propose_91, ↓sModel_propose_92, ↓sModel_propose_93, ↓sModel_propose_96, ↓sModel_propose_97, ↓sModel_propose_98, ↓sModel_propose_101, ↓sModel_propose_102, ↓sModel_propose_103, ↓sModel_propose_104, ↓sModel_propose_105, ↓sModel_propose_106, ↓sModel_propose_109, ↓sModel_propose_110, ↓sModel_propose_111, ↓sModel_propose_112, ↓rf_43_8, ↓sModel_propose_115, ↓sModel_propose_116, ↓rf_43_33, ↓sModel_propose_119, ↓sModel_propose_120, ↓sModel_propose_121, ↓sModel_propose_122, ↓sModel_propose_125, ↓sModel_propose_126, ↓sModel_propose_127, ↓sModel_propose_130, ↓sModel_propose_132, ↓sModel_propose_133, ↓sModel_propose_136, ↓sModel_propose_138, ↓sModel_propose_140, ↓sModel_propose_143, ↓sModel_propose_144, ↓rf_43_37, ↓sModel_propose_147, ↓sModel_propose_149, ↓sModel_propose_150, ↓sModel_propose_151, ↓sModel_propose_152, ↓sModel_propose_153, ↓sModel_propose_156, ↓sModel_propose_157, ↓sModel_propose_160, ↓sModel_propose_162, ↓sModel_propose_163, ↓sModel_propose_164, ↓sModel_propose_165, ↓sModel_propose_166, ↓sModel_propose_169, ↓sModel_propose_171, ↓sModel_propose_174, ↓sModel_propose_175, ↓rf_43_38, ↓sModel_propose_178, ↓sModel_propose_180, ↓sModel_propose_181, ↓sModel_propose_182, ↓sModel_propose_183, ↓sModel_propose_186, ↓sModel_propose_187, ↓rf_43_36, ↓sModel_propose_190, ↓sModel_propose_192, ↓sModel_propose_193, ↓sModel_propose_196, ↓sModel_propose_198, ↓sModel_propose_199, ↓sModel_propose_200, ↓sModel_propose_201, ↓sModel_propose_202, ↓sModel_propose_203, ↓sModel_propose_206, ↓sModel_propose_208, ↓sModel_propose_209, ↓sModel_propose_212, ↓sModel_propose_214, ↓sModel_propose_215, ↓sModel_propose_216, ↓sModel_propose_217, ↓sModel_propose_218, ↓sModel_propose_219, ↓sModel_propose_222, ↓sModel_propose_224, ↓sModel_propose_225, ↓sModel_propose_228, ↓sModel_propose_230, ↓sModel_propose_231, ↓sModel_propose_232, ↓sModel_propose_233, ↓sModel_propose_234, ↓sModel_propose_237, ↓sModel_propose_240, ↓sModel_propose_241, ↓sModel_propose_244, ↓sModel_propose_246, ↓sModel_propose_247, ↓sModel_propose_248, ↓sModel_propose_249, ↓sModel_propose_252, ↓sModel_propose_254, ↓sModel_propose_255, ↓sModel_propose_256, ↓sModel_propose_257, ↓sModel_propose_260, ↓sModel_propose_262, ↓sModel_propose_264, ↓sModel_propose_265, ↓sModel_propose_266, ↓sModel_propose_267, ↓sModel_propose_270, ↓sModel_propose_271, ↓sModel_propose_272, ↓sModel_propose_275, ↓sModel_propose_278, ↓sModel_propose_281, ↓ln_44, ↓ln_49, ↓ln_54, ↓ln_59, ↓ln_60, ↓ln_66, ↓ln_67, ↓ln_68, List.set_cons_zero, List.set_cons_succ, List.length_cons, List.length_nil, List.contains_cons, List.contains_nil, cat1, brP_d, true_and, and_true, not_false_eq_true, not_true_eq_false, if_true, if_false, Bool.or_false, Bool.false_or, Bool.or_true, Bool.true_or, Bool.false_eq_true, Bool.or_self, false_implies, true_implies, forall_const, and_self, implies_true, true_or, or_true, or_false, false_or, or_self, Classical.not_not, Int.reduceAdd, Int.reduceSub, Int.reduceMul, Int.reduceNeg, Int.reduceToNat, Int.reduceLT, Int.reduceLE, Int.reduceEq, Int.reduceNe, Int.reduceNatCast', Nat.reduceAdd, Nat.reduceSub, Nat.reduceLeDiff, Nat.reduceLT, Nat.reduceEqDiff, Nat.reduceBEq, reduceIte, nx_w, nx_c, up_n, up_s, up_f, ne_eq, Nat.reduceEqDiff, Option.some.injEq, Prod.mk.injEq, exists_eq_left', reduceCtorEq, ob_43, e1, e30, eT, e59]
    refine ⟨fun h5 => ?_, fun h5 => ?_⟩
    · rw [show (g 10 4).toNat = w by omega]
      exact ⟨h3, h4⟩
    · rw [wr_id (x := (w : Int) + 1) (by omega) (by omega)]
      have e44 := (hm'.1.2 w (by omega)).1
      refine use_b (t_Model_inScopeG g h hC.1 hm'.1 w (by omega)) (fun hs => ?_) (fun hs => ?_)
      · simp only [one_ne, not_false_eq_true, true_implies, false_implies, true_and, and_true]
        rw [show ((w : Int)).toNat = w by omega] at hs ⊢
        rw [e44]
        refine ⟨by omega, fun c1 => ?_, fun c1 => ?_⟩
        · refine nx h5 h _ _ _ h3 ?_
          rcases hps with ⟨c, _⟩ | ⟨_, e⟩
          · exact absurd c1 c.1.1
          · rw [e]; exact h4
        · have hsn : seenW g w := ⟨c1, hs⟩
          rw [e30, eT, e59]
          refine ⟨by omega, ?_⟩
          refine trV_use (t_Model_nearest g h w (mT g q) hC hm' hmT h80) ?_
          rintro h' ⟨r1, r2, r3⟩
          obtain ⟨n1, n2, n3⟩ := nn_some hC.2.1 r2 (by omega)
          have nnm := nm_in hC.2.1 (n := (h' 43 33).toNat) (by omega)
          have f1 : mpF h0 h' := h3.tr (mpF.nr r1)
          have hm2 : CM g h' := hm.ms (MS.mp f1)
          have v5 := hm2.2.2.2.1.1 5 (by decide)
          have v0 := hm2.2.2.2.1.1 0 (by decide)
          have v1 := hm2.2.2.2.1.1 1 (by decide)
          have e49 := (hm2.2.1.2 (h' 43 33).toNat (by omega)).1
          have hss := CS_okS hC.2.2.2.1
          obtain ⟨s0, s1, s2, s3, s4⟩ := hss
          have m0 := mul_in (i := (g 23 (mT g q)).toNat) s0
          have m1 := mul_in (i := (g 8 (h' 43 33).toNat).toNat) s1
          have t1 := hty'.1
          have t2 := nnm.1
          rw [show (((g 23 (mT g q)).toNat : Nat) : Int) = g 23 (mT g q) by omega] at m0
          rw [show (((g 8 (h' 43 33).toNat).toNat : Nat) : Int) = g 8 (h' 43 33).toNat by omega] at m1
          have pA : prA (h' 43 35) (h' 66) (h' 67) (h' 68) (prS g q w) := by
            rw [r1.2 35 (by decide) (by decide), r1.1 66 (by decide) (by decide) (by decide), r1.1 67 (by decide) (by decide) (by decide), r1.1 68 (by decide) (by decide) (by decide)]
            exact h4
          have skip : ¬ candW g q w → prA (h' 43 35) (h' 66) (h' 67) (h' 68) (prS g q (w + 1)) := by
            intro hc
            rcases hps with ⟨c, _⟩ | ⟨_, e⟩
            · exact absurd c hc
            · rw [e]; exact pA
          have en : h' 43 33 = nq g (mT g q) w := n2
          rw [v5, v0, v1, e49, Int.mul_comm (g 4 0) (g 23 (mT g q)), Int.mul_comm (g 4 1) (g 8 (h' 43 33).toNat), wr_id (x := g 23 (mT g q) * g 4 0) (by omega) (by omega), wr_id (x := g 8 (h' 43 33).toNat * g 4 1) (by omega) (by omega), wr_id (x := g 23 (mT g q) * g 4 0 + g 8 (h' 43 33).toNat * g 4 1) (by omega) (by omega)]
          refine ⟨fun c2 => nx h5 h' _ _ _ f1 (skip (fun z => by have := z.2.1; omega)), fun c2 => ⟨by omega, fun c3 => nx h5 h' _ _ _ f1 (skip (fun z => by have := z.2.2; rw [← en] at this n3; omega)), fun c3 => ?_⟩⟩
          have cand : candW g q w := ⟨hsn, by omega, by rw [← en] at n3 ⊢; omega⟩
          refine use_p (t_Model_wouldFit g h' hC hm2 (hj.mp f1) q w hu (by rw [f1.2 30 (by decide) (by decide) (by decide)]; exact h30) (by omega)) ?_
          rw [pA.1]
          refine l1_Model_propose h' _ w _ _ (prS g q w) (wfI_b g q w) (by omega) pA (prS_b g q w) (by omega) _ (fun h2 x5 z1 z2 => nx h5 h2 _ _ _ (f1.tr (mpF.mi z1)) ?_) ((prS g q w).1 + 1) (prS g q w).1 h' (by omega) (by omega) rfl (fun _ _ _ _ => rfl) ⟨fun _ _ => rfl, fun i h1 h2 => by omega⟩ ⟨fun _ _ => rfl, fun i h1 h2 => by omega⟩ ⟨fun _ _ => rfl, fun i h1 h2 => by omega⟩
          rcases hps with ⟨_, e⟩ | ⟨c, _⟩
          · rw [e, ← n3]; exact z2
          · exact absurd cand c
      · simp only [not_true_eq_false, true_implies, false_implies, true_and, and_true]
        rw [show ((w : Int)).toNat = w by omega] at hs
        refine nx h5 h _ _ _ h3 ?_
        rcases hps with ⟨c, _⟩ | ⟨_, e⟩
        · exact absurd c.1.2 hs
        · rw [e]; exact h4

def qPM (g h h' : HP) : Prop := MS h h' ∧ qTyp g h' ∧ jdG g h' ∧ (∃ p x, verdR g (mN g) (fun i => mT g i) (mW g) (h' 43 29) (h' 43 30) p x) ∧ qPr g (h' 43 29) (h' 43 35) (h' 66) (h' 67) (h' 68)
set_option maxRecDepth 100000 in
set_option maxHeartbeats 4000000 in
theorem t_Model_propose (g h : HP) (hC : CI g) (hm : CM g h) : trV mModel_propose [.inr (.inr 43)] SH0 h (qPM g h) := by
  have hL := hC.2.2.2.2
  have h10 := hL.2.2.2.1.2.1
  refine startV [some (.inr (.inr 43)), none, none, none, none, none] mModel_propose_c (go [40] 400 (k := ?_))
  simp (config := {maxSteps := 1000000}) only [↓pI_c, ↓pR_c, ↓pJ_c, ↓pV_c, ↓popN_0, ↓popN_s, ↓lI_0, ↓lR_0, ↓lJ_0, ↓lI_s, ↓lR_s, ↓lJ_s, ↓okSt_0, ↓okSt_I, ↓okSt_R, ↓okSt_N, ↓okSt_s, ↓rtI_s, ↓rtV_n, ↓brP_t, ↓brP_f, ↓sModel_propose_0, ↓sModel_propose_1, ↓sModel_propose_4, ↓sModel_propose_5, ↓sModel_propose_6, ↓rf_43_35, ↓sModel_propose_9, ↓sModel_propose_10, ↓rf_43_29, ↓sModel_propose_13, ↓sModel_propose_14, ↓sModel_propose_17, ↓sModel_propose_18, ↓rf_43_14, ↓sModel_propose_21, ↓sModel_propose_23, ↓sModel_propose_24, ↓sModel_propose_27, ↓sModel_propose_28, ↓sModel_propose_29, ↓rf_43_24, ↓sModel_propose_32, ↓sModel_propose_33, ↓rf_43_30, ↓sModel_propose_36, ↓sModel_propose_37, ↓sModel_propose_38, ↓sModel_propose_39, ↓sModel_propose_40, ↓sModel_propose_41, ↓sModel_propose_42, ↓rf_43_1, ↓sModel_propose_45, ↓sModel_propose_48, ↓sModel_propose_49, ↓sModel_propose_50, ↓sModel_propose_53, ↓sModel_propose_56, ↓sModel_propose_57, ↓rf_43_2, ↓sModel_propose_60, ↓sModel_propose_61, ↓sModel_propose_62, ↓sModel_propose_63, ↓sModel_propose_66, ↓sModel_propose_67, ↓sModel_propose_68, ↓rf_43_23, ↓sModel_propose_71, ↓sModel_propose_72, ↓sModel_propose_75, ↓sModel_propose_76, ↓sModel_propose_77, ↓sModel_propose_78, ↓sModel_propose_81, ↓sModel_propose_82, ↓rf_43_34, ↓sModel_propose_85, ↓sModel_propose_86, ↓sModel_propose_87, ↓sModel_propose_88, ↓sModel_propose_91, ↓sModel_propose_92, ↓sModel_propose_93, ↓sModel_propose_96, ↓sModel_propose_97, ↓sModel_propose_98, ↓sModel_propose_101, ↓sModel_propose_102, ↓sModel_propose_103, ↓sModel_propose_104, ↓sModel_propose_105, ↓sModel_propose_106, ↓sModel_propose_109, ↓sModel_propose_110, ↓sModel_propose_111, ↓sModel_propose_112, ↓rf_43_8, ↓sModel_propose_115, ↓sModel_propose_116, ↓rf_43_33, ↓sModel_propose_119, ↓sModel_propose_120, ↓sModel_propose_121, ↓sModel_propose_122, ↓sModel_propose_125, ↓sModel_propose_126, ↓sModel_propose_127, ↓sModel_propose_130, ↓sModel_propose_132, ↓sModel_propose_133, ↓sModel_propose_136, ↓sModel_propose_138, ↓sModel_propose_140, ↓sModel_propose_143, ↓sModel_propose_144, ↓rf_43_37, ↓sModel_propose_147, ↓sModel_propose_149, ↓sModel_propose_150, ↓sModel_propose_151, ↓sModel_propose_152, ↓sModel_propose_153, ↓sModel_propose_156, ↓sModel_propose_157, ↓sModel_propose_160, ↓sModel_propose_162, ↓sModel_propose_163, ↓sModel_propose_164, ↓sModel_propose_165, ↓sModel_propose_166, ↓sModel_propose_169, ↓sModel_propose_171, ↓sModel_propose_174, ↓sModel_propose_175, ↓rf_43_38, ↓sModel_propose_178, ↓sModel_propose_180, ↓sModel_propose_181, ↓sModel_propose_182, ↓sModel_propose_183, ↓sModel_propose_186, ↓sModel_propose_187, ↓rf_43_36, ↓sModel_propose_190, ↓sModel_propose_192, ↓sModel_propose_193, ↓sModel_propose_196, ↓sModel_propose_198, ↓sModel_propose_199, ↓sModel_propose_200, ↓sModel_propose_201, ↓sModel_propose_202, ↓sModel_propose_203, ↓sModel_propose_206, ↓sModel_propose_208, ↓sModel_propose_209, ↓sModel_propose_212, ↓sModel_propose_214, ↓sModel_propose_215, ↓sModel_propose_216, ↓sModel_propose_217, ↓sModel_propose_218, ↓sModel_propose_219, ↓sModel_propose_222, ↓sModel_propose_224, ↓sModel_propose_225, ↓sModel_propose_228, ↓sModel_propose_230, ↓sModel_propose_231, ↓sModel_propose_232, ↓sModel_propose_233, ↓sModel_propose_234, ↓sModel_propose_237, ↓sModel_propose_240, ↓sModel_propose_241, ↓sModel_propose_244, ↓sModel_propose_246, ↓sModel_propose_247, ↓sModel_propose_248, ↓sModel_propose_249, ↓sModel_propose_252, ↓sModel_propose_254, ↓sModel_propose_255, ↓sModel_propose_256, ↓sModel_propose_257, ↓sModel_propose_260, ↓sModel_propose_262, ↓sModel_propose_264, ↓sModel_propose_265, ↓sModel_propose_266, ↓sModel_propose_267, ↓sModel_propose_270, ↓sModel_propose_271, ↓sModel_propose_272, ↓sModel_propose_275, ↓sModel_propose_278, ↓sModel_propose_281, ↓ln_44, ↓ln_49, ↓ln_54, ↓ln_59, ↓ln_60, ↓ln_66, ↓ln_67, ↓ln_68, List.set_cons_zero, List.set_cons_succ, List.length_cons, List.length_nil, List.contains_cons, List.contains_nil, cat1, brP_d, true_and, and_true, not_false_eq_true, not_true_eq_false, if_true, if_false, Bool.or_false, Bool.false_or, Bool.or_true, Bool.true_or, Bool.false_eq_true, Bool.or_self, false_implies, true_implies, forall_const, and_self, implies_true, true_or, or_true, or_false, false_or, or_self, Classical.not_not, Int.reduceAdd, Int.reduceSub, Int.reduceMul, Int.reduceNeg, Int.reduceToNat, Int.reduceLT, Int.reduceLE, Int.reduceEq, Int.reduceNe, Int.reduceNatCast', Nat.reduceAdd, Nat.reduceSub, Nat.reduceLeDiff, Nat.reduceLT, Nat.reduceEqDiff, Nat.reduceBEq, reduceIte, nx_w, nx_c, up_n, up_s, up_f, ne_eq, Nat.reduceEqDiff, Option.some.injEq, Prod.mk.injEq, exists_eq_left', reduceCtorEq, ob_43]
  refine trV_use (t_Model_judge g h hC hm) ?_
  rintro h1 ⟨q1, q2, q3, q4, p, x, q5⟩
  have z : mpF h1 (up h1 43 35 0) := ⟨fun a a1 _ _ _ _ _ => up_ne a1, fun b _ _ b3 => up_f b3⟩
  have zt : qTyp g (up h1 43 35 0) := by
    refine ⟨by rw [up_f (by decide)]; exact q2.1, fun k hk => ?_⟩
    rw [up_n (by decide), up_n (by decide), up_n (by decide)]
    exact q2.2 k hk
  have zj : jdG g (up h1 43 35 0) := jdG.mp z ⟨q3, q4⟩
  have zv : ∃ p x, verdR g (mN g) (fun i => mT g i) (mW g) (up h1 43 35 0 43 29) (up h1 43 35 0 43 30) p x := ⟨p, x, by rw [up_f (by decide), up_f (by decide)]; exact q5⟩
  have e29 : up h1 43 35 0 43 29 = h1 43 29 := up_f (by decide)
  have e35 : up h1 43 35 0 43 35 = 0 := up_s
  have hm1 := hm.ms q1
  have v7 := hm1.2.2.2.1.1 7 (by decide)
  have s7 := hC.2.2.2.1.1 7 (by decide)
  simp only [setLo, setHi] at s7
  have no : ¬ (h1 43 29 = 3 ∧ g 4 7 = 1) → qPM g h (up h1 43 35 0) := fun y => ⟨q1.tr (MS.mp z), zt, zj, zv, Or.inr ⟨by rw [e29]; exact y, e35⟩⟩
  rw [v7]
  refine ⟨fun c1 => no (fun y => c1 y.1), fun c1 => ⟨fun c2 => ?_, fun c2 => no (fun y => by omega)⟩⟩
  rw [c1] at q5
  obtain ⟨q, hu, e9, e8⟩ := verd_u3 q5
  have hmT := (mT_in hu.1 hL.2.2.2.1.1).1
  have eT : ((mT g q : Nat) : Int).toNat = mT g q := by omega
  rw [e8, eT, (q2.2 _ hmT).2.1]
  refine ⟨by omega, ?_⟩
  refine Wt.mono ?_ (l_Model_propose g (up h1 43 35 0) hC (hm1.ms (MS.mp z)) zj zt q hu (by rw [up_f (by decide)]; exact e8) ((g 10 4).toNat + 1) 0 _ _ _ _ (by have := hC.1.1; push_cast; omega) (by have := hC.1.1; push_cast; omega) mpF.rf ⟨e35, fun i hi => absurd hi (Nat.not_lt_zero i)⟩)
  rintro v sh' h' ⟨rfl, hv'⟩
  refine ⟨rfl, ?_⟩
  obtain ⟨rfl, k1, k2⟩ := rtV_ex hv'
  have k3 := z.tr k1
  have f29 : h' 43 29 = h1 43 29 := k3.2 29 (by decide) (by decide) (by decide)
  refine ⟨q1.tr (MS.mp k3), ?_, jdG.mp k3 ⟨q3, q4⟩, ⟨q, x, by rw [f29, k3.2 30 (by decide) (by decide) (by decide), c1, ← e9]; exact q5⟩, Or.inl ⟨by rw [f29]; exact c1, by omega, q, hu, k2⟩⟩
  refine ⟨by rw [k3.2 22 (by decide) (by decide) (by decide)]; exact q2.1, fun k hk => ?_⟩
  rw [k3.1 59 (by decide) (by decide) (by decide) (by decide) (by decide) (by decide), k3.1 60 (by decide) (by decide) (by decide) (by decide) (by decide) (by decide), k3.1 61 (by decide) (by decide) (by decide) (by decide) (by decide) (by decide)]
  exact q2.2 k hk
set_option maxRecDepth 100000 in
set_option maxHeartbeats 4000000 in
theorem t_Model_proposal (g h : HP) (hC : CI g) (hm : CM g h) (i w : Int) : trI mModel_proposal [.inr (.inr 43), .inl i, .inl w] SH0 h (roM (sProp i w g) h) := by
  refine startI [some (.inr (.inr 43)), some (.inl i), some (.inl w)] mModel_proposal_c (go [9999] 400 (k := ?_))
  simp (config := {maxSteps := 1000000}) only [↓pI_c, ↓pR_c, ↓pJ_c, ↓pV_c, ↓popN_0, ↓popN_s, ↓lI_0, ↓lR_0, ↓lJ_0, ↓lI_s, ↓lR_s, ↓lJ_s, ↓okSt_0, ↓okSt_I, ↓okSt_R, ↓okSt_N, ↓okSt_s, ↓rtI_s, ↓rtV_n, ↓brP_t, ↓brP_f, ↓sModel_proposal_0, ↓sModel_proposal_1, ↓sModel_proposal_2, ↓rf_43_0, ↓sModel_proposal_5, ↓sModel_proposal_6, ↓sModel_proposal_9, ↓sModel_proposal_10, ↓sModel_proposal_11, ↓sModel_proposal_12, ↓rf_43_35, ↓sModel_proposal_15, ↓sModel_proposal_16, ↓sModel_proposal_17, ↓sModel_proposal_20, ↓sModel_proposal_23, ↓sModel_proposal_24, ↓sModel_proposal_25, ↓sModel_proposal_26, ↓sModel_proposal_29, ↓sModel_proposal_32, ↓sModel_proposal_34, ↓sModel_proposal_35, ↓sModel_proposal_36, ↓sModel_proposal_39, ↓sModel_proposal_40, ↓rf_43_36, ↓sModel_proposal_43, ↓sModel_proposal_44, ↓sModel_proposal_45, ↓sModel_proposal_48, ↓sModel_proposal_49, ↓sModel_proposal_50, ↓sModel_proposal_53, ↓sModel_proposal_54, ↓rf_43_37, ↓sModel_proposal_57, ↓sModel_proposal_58, ↓sModel_proposal_59, ↓sModel_proposal_62, ↓sModel_proposal_63, ↓rf_43_38, ↓sModel_proposal_66, ↓sModel_proposal_67, ↓sModel_proposal_68, ↓sModel_proposal_71, ↓sModel_proposal_72, ↓sModel_proposal_75, ↓sModel_proposal_76, ↓ln_66, ↓ln_67, ↓ln_68, List.set_cons_zero, List.set_cons_succ, List.length_cons, List.length_nil, List.contains_cons, List.contains_nil, cat1, brP_d, true_and, and_true, not_false_eq_true, not_true_eq_false, if_true, if_false, Bool.or_false, Bool.false_or, Bool.or_true, Bool.true_or, Bool.false_eq_true, Bool.or_self, false_implies, true_implies, forall_const, and_self, implies_true, true_or, or_true, or_false, false_or, or_self, Classical.not_not, Int.reduceAdd, Int.reduceSub, Int.reduceMul, Int.reduceNeg, Int.reduceToNat, Int.reduceLT, Int.reduceLE, Int.reduceEq, Int.reduceNe, Int.reduceNatCast', Nat.reduceAdd, Nat.reduceSub, Nat.reduceLeDiff, Nat.reduceLT, Nat.reduceEqDiff, Nat.reduceBEq, reduceIte, nx_w, nx_c, up_n, up_s, up_f, ne_eq, Nat.reduceEqDiff, Option.some.injEq, Prod.mk.injEq, exists_eq_left', reduceCtorEq, ob_43]
  refine trV_use (t_Model_propose g _ hC (hm.ms msu0)) ?_
  rintro h1 ⟨q1, q2, q3, ⟨p, x, q4⟩, q5⟩
  have hin := qPr_in hC.1 q5
  have hms : MS h h1 := msu0.tr q1
  have hn := hin.1
  rw [wr_id (x := h1 43 35 - 1) (by omega) (by omega)]
  have mk : ∀ r, (((0 ≤ i ∧ i < h1 43 35) ∧ ((w = 0 ∧ r = h1 66 i.toNat) ∨ (w = 1 ∧ r = h1 67 i.toNat) ∨ (w = 2 ∧ r = h1 68 i.toNat))) ∨ (¬ ((0 ≤ i ∧ i < h1 43 35) ∧ 0 ≤ w ∧ w ≤ 2) ∧ r = -2)) → roM (sProp i w g) h r h1 := fun r hr => ⟨hms, _, _, _, _, _, _, _, _, q4, q5, hr⟩
  refine use_in (fun e1 => ?_) (fun e1 => ?_)
  · simp only [one_ne, not_false_eq_true, true_implies, false_implies, true_and]
    have hb := hin.2 i.toNat (by omega)
    refine use_in (fun e2 => ?_) (fun e2 => ?_)
    · simp only [one_ne, not_false_eq_true, true_implies, false_implies, and_true]
      refine ⟨fun c2 => ⟨fun c3 => ⟨by omega, fun c4 => mk _ (by omega), fun c4 => mk _ (by omega)⟩, fun c3 => ⟨by omega, mk _ (by omega)⟩⟩, fun c2 => ⟨by omega, mk _ (by omega)⟩⟩
    · simp only [not_true_eq_false, true_implies, false_implies, true_and]
      exact mk _ (by omega)
  · simp only [not_true_eq_false, true_implies, false_implies, and_true]
    exact mk _ (by omega)
