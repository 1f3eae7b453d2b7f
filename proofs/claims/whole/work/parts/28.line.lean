/-! line, split, part: the typed words -/
def splP (h : HP) (m : Int) (f : Nat → Int) (i tz run : Int) : Prop := IRuns h i tz f (h 22) (h 23) ∧ tz = rc f i.toNat ∧ 0 ≤ run ∧ run ≤ i ∧ (0 < run → 1 ≤ tz ∧ h 22 (tz - 1).toNat + h 23 (tz - 1).toNat = i ∧ h 23 (tz - 1).toNat = run ∧ ¬ lOf (f (i.toNat - 1)) = -1) ∧ (run = 0 → i = 0 ∨ lOf (f (i.toNat - 1)) = -1)
theorem runs_skip {g g' : HP} {i tz : Int} {f st ln : Nat → Int} (h : IRuns g i tz f st ln) (h0 : 0 ≤ i) (hn : lOf (f i.toNat) = -1) : IRuns g' (i + 1) tz f st ln := by
  obtain ⟨h1, h2, h3, h4, h5⟩ := h
  refine ⟨h1, h2, fun k hk => ?_, fun j hj hl => ?_, h5⟩
  · obtain ⟨a1, a2, a3, a4⟩ := h3 k hk
    exact ⟨a1, a2, by omega, a4⟩
  · by_cases e : (j : Int) = i
    · exfalso
      rw [show j = i.toNat by omega] at hl
      exact hl hn
    · exact h4 j (by omega) hl
theorem runs_new {g g' : HP} {i tz : Int} {f st ln st' ln' : Nat → Int} (h : IRuns g i tz f st ln) (h0 : 0 ≤ i) (hn : ¬ lOf (f i.toNat) = -1) (hp : i = 0 ∨ lOf (f (i.toNat - 1)) = -1) (h10 : tz < 10) (e1 : ∀ k : Nat, (k : Int) < tz → st' k = st k ∧ ln' k = ln k) (e2 : st' tz.toNat = i ∧ ln' tz.toNat = 1) : IRuns g' (i + 1) (tz + 1) f st' ln' := by
  have h' := h
  obtain ⟨h1, h2, h3, h4, h5⟩ := h
  refine ⟨by omega, by omega, fun k hk => ?_, fun j hj hl => ?_, fun k hk => ?_⟩
  · by_cases e : (k : Int) = tz
    · rw [show k = tz.toNat by omega, e2.1, e2.2]
      refine ⟨h0, by omega, by omega, fun j q1 q2 => ?_⟩
      rw [show j = i.toNat by omega]
      exact hn
    · obtain ⟨a1, a2, a3, a4⟩ := h3 k (by omega)
      rw [(e1 k (by omega)).1, (e1 k (by omega)).2]
      exact ⟨a1, a2, by omega, a4⟩
  · by_cases e : (j : Int) = i
    · exact ⟨tz.toNat, by omega, by rw [e2.1]; omega, by rw [e2.1, e2.2]; omega⟩
    · obtain ⟨k, q1, q2, q3⟩ := h4 j (by omega) hl
      exact ⟨k, by omega, by rw [(e1 k q1).1]; exact q2, by rw [(e1 k q1).1, (e1 k q1).2]; exact q3⟩
  · by_cases e : (k : Int) + 1 = tz
    · rw [show k + 1 = tz.toNat by omega, e2.1, (e1 k (by omega)).1, (e1 k (by omega)).2]
      obtain ⟨a1, a2, a3, a4⟩ := h3 k (by omega)
      rcases Int.lt_or_le (st k + ln k) i with q | q
      · exact q
      · exfalso
        have := a4 (i.toNat - 1) (by omega) (by omega)
        rcases hp with z | z
        · omega
        · exact this z
    · rw [(e1 k (by omega)).1, (e1 k (by omega)).2, (e1 (k + 1) (by push_cast; omega)).1]
      exact h5 k (by omega)
theorem runs_grow {g g' : HP} {i tz run : Int} {f st ln ln' : Nat → Int} (h : IRuns g i tz f st ln) (h0 : 0 ≤ i) (hn : ¬ lOf (f i.toNat) = -1) (hz : 1 ≤ tz) (he : st (tz - 1).toNat + ln (tz - 1).toNat = i) (e1 : ∀ k : Nat, (k : Int) < tz - 1 → ln' k = ln k) (e2 : ln' (tz - 1).toNat = ln (tz - 1).toNat + 1) : IRuns g' (i + 1) tz f st ln' := by
  obtain ⟨h1, h2, h3, h4, h5⟩ := h
  refine ⟨h1, h2, fun k hk => ?_, fun j hj hl => ?_, fun k hk => ?_⟩
  · obtain ⟨a1, a2, a3, a4⟩ := h3 k hk
    by_cases e : (k : Int) = tz - 1
    · have ek : k = (tz - 1).toNat := by omega
      subst ek
      rw [e2]
      refine ⟨a1, by omega, by omega, fun j q1 q2 => ?_⟩
      by_cases e3 : (j : Int) = i
      · rw [show j = i.toNat by omega]; exact hn
      · exact a4 j q1 (by omega)
    · rw [e1 k (by omega)]
      exact ⟨a1, a2, by omega, a4⟩
  · by_cases e : (j : Int) = i
    · exact ⟨(tz - 1).toNat, by omega, by have := (h3 (tz - 1).toNat (by omega)).2.1; omega, by rw [e2]; omega⟩
    · obtain ⟨k, q1, q2, q3⟩ := h4 j (by omega) hl
      refine ⟨k, q1, q2, ?_⟩
      by_cases e3 : (k : Int) = tz - 1
      · rw [show k = (tz - 1).toNat by omega] at q3 ⊢
        rw [e2]; omega
      · rw [e1 k (by omega)]; exact q3
  · rw [e1 k (by omega)]
    exact h5 k hk
def spF (h0 h : HP) : Prop := (∀ a, a ≠ 19 → a ≠ 21 → a ≠ 22 → a ≠ 23 → h a = h0 a) ∧ ∀ b, b ≠ 5 → h 19 b = h0 19 b
def qSplit (h0 h : HP) : Prop := spF h0 h ∧ (∀ j : Nat, (j : Int) < h0 19 4 → h 21 j = lOf (h0 20 j)) ∧ IRuns h (h0 19 4) (h 19 5) (h0 20) (h 22) (h 23) ∧ h 19 5 = rc (h0 20) (h0 19 4).toNat
set_option maxRecDepth 100000 in
set_option maxHeartbeats 4000000 in
theorem l_Line_split (h0 : HP) (hm : 0 ≤ h0 19 4 ∧ h0 19 4 ≤ 92) (hrc : rc (h0 20) (h0 19 4).toNat ≤ 10) : ∀ (d : Nat) (i run : Int) (h : HP), h0 19 4 - i < d → 0 ≤ i → i ≤ h0 19 4 → spF h0 h → (∀ j : Nat, (j : Int) < i → h 21 j = lOf (h0 20 j)) → splP h (h0 19 4) (h0 20) i (h 19 5) run → Wn Z4 mLine_split SH0 9 [some (.inr (.inr 19)), some (.inl run), some (.inl i)] [] h (rtV (qSplit h0)) := by
  intro d
  induction d with
  | zero => intro i run h h1 h2 h3; omega
  | succ d ih =>
    intro i run h h1 h2 h3 h4 h5 h6
    have f20 : h 20 = h0 20 := h4.1 20 (by decide) (by decide) (by decide) (by decide)
    have f4 : h 19 4 = h0 19 4 := h4.2 4 (by decide)
    obtain ⟨s1, s2, s3, s4, s5, s6⟩ := h6
    have hs : rc (h0 20) (i + 1).toNat = rc (h0 20) i.toNat + (if ¬ lOf (h0 20 i.toNat) = -1 ∧ (i.toNat = 0 ∨ lOf (h0 20 (i.toNat - 1)) = -1) then 1 else 0) := by
      rw [show (i + 1).toNat = i.toNat + 1 by omega]
      rfl
    have htz := s1.1
    have htz10 := s1.2.1
    refine go [9] 400 (k := ?_)
    simp (config := {maxSteps := 1000000}) only [↓pI_c, ↓pR_c, ↓pJ_c, ↓pV_c, ↓popN_0, ↓popN_s, ↓lI_0, ↓lR_0, ↓lJ_0, ↓lI_s, ↓lR_s, ↓lJ_s, ↓okSt_0, ↓okSt_I, ↓okSt_R, ↓okSt_N, ↓okSt_s, ↓rtI_s, ↓rtV_n, ↓brP_t, ↓brP_f, ↓sLine_split_0, ↓sLine_split_1, ↓sLine_split_2, ↓rf_19_5, ↓sLine_split_5, ↓sLine_split_6, ↓sLine_split_7, ↓sLine_split_8, ↓sLine_split_9, ↓sLine_split_10, ↓sLine_split_11, ↓rf_19_4, ↓sLine_split_14, ↓sLine_split_17, ↓sLine_split_18, ↓rf_19_1, ↓sLine_split_21, ↓sLine_split_22, ↓sLine_split_23, ↓rf_19_0, ↓sLine_split_26, ↓sLine_split_27, ↓sLine_split_28, ↓sLine_split_31, ↓sLine_split_32, ↓sLine_split_33, ↓sLine_split_36, ↓sLine_split_37, ↓sLine_split_38, ↓sLine_split_39, ↓sLine_split_42, ↓sLine_split_43, ↓sLine_split_46, ↓sLine_split_47, ↓sLine_split_48, ↓sLine_split_49, ↓sLine_split_50, ↓sLine_split_51, ↓sLine_split_52, ↓sLine_split_55, ↓sLine_split_56, ↓sLine_split_59, ↓sLine_split_61, ↓sLine_split_64, ↓sLine_split_65, ↓rf_19_2, ↓sLine_split_68, ↓sLine_split_69, ↓sLine_split_72, ↓sLine_split_73, ↓sLine_split_74, ↓sLine_split_75, ↓sLine_split_76, ↓sLine_split_79, ↓sLine_split_80, ↓sLine_split_81, ↓sLine_split_84, ↓sLine_split_85, ↓sLine_split_88, ↓sLine_split_89, ↓rf_19_3, ↓sLine_split_92, ↓sLine_split_93, ↓sLine_split_96, ↓sLine_split_97, ↓sLine_split_98, ↓sLine_split_99, ↓sLine_split_100, ↓sLine_split_103, ↓sLine_split_106, ↓ln_20, ↓ln_21, ↓ln_22, ↓ln_23, List.set_cons_zero, List.set_cons_succ, List.length_cons, List.length_nil, List.contains_cons, List.contains_nil, cat1, brP_d, true_and, and_true, not_false_eq_true, not_true_eq_false, if_true, if_false, Bool.or_false, Bool.false_or, Bool.or_true, Bool.true_or, Bool.false_eq_true, Bool.or_self, false_implies, true_implies, forall_const, and_self, implies_true, true_or, or_true, or_false, false_or, or_self, Classical.not_not, Int.reduceAdd, Int.reduceSub, Int.reduceMul, Int.reduceNeg, Int.reduceToNat, Int.reduceLT, Int.reduceLE, Int.reduceEq, Int.reduceNe, Int.reduceNatCast', Nat.reduceAdd, Nat.reduceSub, Nat.reduceLeDiff, Nat.reduceLT, Nat.reduceEqDiff, Nat.reduceBEq, reduceIte, nx_w, nx_c, up_n, up_s, up_f, ne_eq, Nat.reduceEqDiff, Option.some.injEq, Prod.mk.injEq, exists_eq_left', reduceCtorEq, ar_20, ar_21, f20, f4]
    refine ⟨fun h7 => ?_, fun h7 => ⟨by omega, ?_⟩⟩
    · have e : i = h0 19 4 := by omega
      subst e
      exact ⟨h4, h5, s1, s2⟩
    · have hmono := rc_mono (h0 20) ((h0 19 4).toNat - (i + 1).toNat) (i + 1).toNat
      rw [show (i + 1).toNat + ((h0 19 4).toNat - (i + 1).toNat) = (h0 19 4).toNat by omega] at hmono
      refine use_p (t_Help_letterOf h _) ?_
      refine ⟨by omega, ?_⟩
      rw [wr_id (x := i + 1) (by omega) (by omega), wr_id (x := run + 1) (by omega) (by omega)]
      have hlet : ∀ (h' : HP), h' 21 = up h 21 i.toNat (lOf (h0 20 i.toNat)) 21 → ∀ j : Nat, (j : Int) < i + 1 → h' 21 j = lOf (h0 20 j) := by
        intro h' e j hj
        rw [e]
        by_cases ej : (j : Int) = i
        · rw [show j = i.toNat by omega, up_s]
        · rw [up_f (by omega)]; exact h5 j (by omega)
      have e1 : (i + 1).toNat - 1 = i.toNat := by omega
      refine ⟨by omega, ?_⟩
      constructor
      · intro h8
        by_cases hr : run = 0
        · -- a new run
          have hnew := s6 hr
          rw [if_pos (by constructor; exact h8; rcases hnew with z | z; exact Or.inl (by omega); exact Or.inr z)] at hs
          have hlt : h 19 5 < 10 := by omega
          subst hr
          simp only [show (0 : Int) + 1 = 1 from rfl, not_true_eq_false, false_implies, true_implies, true_and, show ¬ (10 : Int) ≤ h 19 5 by omega, not_false_eq_true, show ¬ (1 : Int) ≤ 0 by decide]
          rw [wr_id (x := h 19 5 + 1) (by omega) (by omega), wr_id (x := h 19 5 + 1 - 1) (by omega) (by omega), show h 19 5 + 1 - 1 = h 19 5 by omega]
          refine ⟨by omega, by omega, ih (i + 1) 1 _ (by omega) (by omega) (by omega) ⟨fun a a1 a2 a3 a4 => ?_, fun b hb => ?_⟩ (hlet _ ?_) ?_⟩
          · rw [up_ne a4, up_ne a1, up_ne a3, up_ne a2]; exact h4.1 a a1 a2 a3 a4
          · rw [up_n (by decide), up_f hb, up_n (by decide), up_n (by decide)]; exact h4.2 b hb
          · rw [up_ne (by decide), up_ne (by decide), up_ne (by decide)]
          · have g5 : up (up (up (up h 21 i.toNat (lOf (h0 20 i.toNat))) 22 (h 19 5).toNat i) 19 5 (h 19 5 + 1)) 23 (h 19 5).toNat 1 19 5 = h 19 5 + 1 := by rw [up_n (by decide), up_s]
            have g22 : ∀ b, up (up (up (up h 21 i.toNat (lOf (h0 20 i.toNat))) 22 (h 19 5).toNat i) 19 5 (h 19 5 + 1)) 23 (h 19 5).toNat 1 22 b = if b = (h 19 5).toNat then i else h 22 b := fun b => by rw [up_n (by decide), up_n (by decide), up_a, up_n (by decide)]
            have g23 : ∀ b, up (up (up (up h 21 i.toNat (lOf (h0 20 i.toNat))) 22 (h 19 5).toNat i) 19 5 (h 19 5 + 1)) 23 (h 19 5).toNat 1 23 b = if b = (h 19 5).toNat then 1 else h 23 b := fun b => by rw [up_a, up_n (by decide), up_n (by decide), up_n (by decide)]
            rw [g5]
            refine ⟨runs_new s1 h2 h8 hnew hlt (fun k hk => ⟨by rw [g22, if_neg (by omega)], by rw [g23, if_neg (by omega)]⟩) ⟨by rw [g22, if_pos rfl], by rw [g23, if_pos rfl]⟩, by omega, by omega, by omega, fun _ => ⟨by omega, ?_, ?_, by rw [e1]; exact h8⟩, fun z => by omega⟩
            · rw [show (h 19 5 + 1 - 1).toNat = (h 19 5).toNat by omega, g22, g23, if_pos rfl, if_pos rfl]
            · rw [show (h 19 5 + 1 - 1).toNat = (h 19 5).toNat by omega, g23, if_pos rfl]
        · -- the run goes on
          have hrun := s5 (by omega)
          rw [if_neg (by rintro ⟨z1, z2 | z2⟩; omega; exact hrun.2.2.2 z2)] at hs
          simp only [show ¬ run + 1 = 1 by omega, not_false_eq_true, true_implies, false_implies, and_true, true_and, not_true_eq_false, show ¬ run + 1 ≤ 0 by omega]
          rw [wr_id (x := h 19 5 - 1) (by omega) (by omega)]
          refine ⟨by omega, ih (i + 1) (run + 1) _ (by omega) (by omega) (by omega) ⟨fun a a1 a2 a3 a4 => ?_, fun b hb => ?_⟩ (hlet _ ?_) ?_⟩
          · rw [up_ne a4, up_ne a2]; exact h4.1 a a1 a2 a3 a4
          · rw [up_n (by decide), up_n (by decide)]; exact h4.2 b hb
          · rw [up_ne (by decide)]
          · have g5 : up (up h 21 i.toNat (lOf (h0 20 i.toNat))) 23 (h 19 5 - 1).toNat (run + 1) 19 5 = h 19 5 := by rw [up_n (by decide), up_n (by decide)]
            have g22 : up (up h 21 i.toNat (lOf (h0 20 i.toNat))) 23 (h 19 5 - 1).toNat (run + 1) 22 = h 22 := by rw [up_ne (by decide), up_ne (by decide)]
            have g23 : ∀ b, up (up h 21 i.toNat (lOf (h0 20 i.toNat))) 23 (h 19 5 - 1).toNat (run + 1) 23 b = if b = (h 19 5 - 1).toNat then run + 1 else h 23 b := fun b => by rw [up_a, up_n (by decide)]
            unfold splP
            rw [g5, g22]
            refine ⟨runs_grow (run := run) s1 h2 h8 hrun.1 hrun.2.1 (fun k hk => by rw [g23, if_neg (by omega)]) (by rw [g23, if_pos rfl, hrun.2.2.1]), by omega, by omega, by omega, fun _ => ⟨hrun.1, ?_, ?_, by rw [e1]; exact h8⟩, fun z => by omega⟩
            · rw [g23, if_pos rfl]; have := hrun.2.1; have := hrun.2.2.1; omega
            · rw [g23, if_pos rfl]
      · intro h8
        rw [if_neg (by rintro ⟨z1, _⟩; exact z1 h8)] at hs
        refine ih (i + 1) 0 _ (by omega) (by omega) (by omega) ⟨fun a a1 a2 a3 a4 => ?_, fun b hb => ?_⟩ (hlet _ rfl) ?_
        · rw [up_ne a2]; exact h4.1 a a1 a2 a3 a4
        · rw [up_n (by decide)]; exact h4.2 b hb
        · unfold splP
          rw [up_n (by decide), up_ne (by decide), up_ne (by decide)]
          exact ⟨runs_skip s1 h2 h8, by omega, by omega, by omega, fun z => by omega, fun _ => Or.inr (by rw [e1]; exact h8)⟩
set_option maxRecDepth 100000 in
set_option maxHeartbeats 4000000 in
theorem t_Line_split (h : HP) (hm : 0 ≤ h 19 4 ∧ h 19 4 ≤ 92) (hrc : rc (h 20) (h 19 4).toNat ≤ 10) : trV mLine_split [.inr (.inr 19)] SH0 h (qSplit h) := by
  refine startV [some (.inr (.inr 19)), none, none] mLine_split_c (go [9] 400 (k := ?_))
  simp (config := {maxSteps := 1000000}) only [↓pI_c, ↓pR_c, ↓pJ_c, ↓pV_c, ↓popN_0, ↓popN_s, ↓lI_0, ↓lR_0, ↓lJ_0, ↓lI_s, ↓lR_s, ↓lJ_s, ↓okSt_0, ↓okSt_I, ↓okSt_R, ↓okSt_N, ↓okSt_s, ↓rtI_s, ↓rtV_n, ↓brP_t, ↓brP_f, ↓sLine_split_0, ↓sLine_split_1, ↓sLine_split_2, ↓rf_19_5, ↓sLine_split_5, ↓sLine_split_6, ↓sLine_split_7, ↓sLine_split_8, ↓sLine_split_9, ↓sLine_split_10, ↓sLine_split_11, ↓rf_19_4, ↓sLine_split_14, ↓sLine_split_17, ↓sLine_split_18, ↓rf_19_1, ↓sLine_split_21, ↓sLine_split_22, ↓sLine_split_23, ↓rf_19_0, ↓sLine_split_26, ↓sLine_split_27, ↓sLine_split_28, ↓sLine_split_31, ↓sLine_split_32, ↓sLine_split_33, ↓sLine_split_36, ↓sLine_split_37, ↓sLine_split_38, ↓sLine_split_39, ↓sLine_split_42, ↓sLine_split_43, ↓sLine_split_46, ↓sLine_split_47, ↓sLine_split_48, ↓sLine_split_49, ↓sLine_split_50, ↓sLine_split_51, ↓sLine_split_52, ↓sLine_split_55, ↓sLine_split_56, ↓sLine_split_59, ↓sLine_split_61, ↓sLine_split_64, ↓sLine_split_65, ↓rf_19_2, ↓sLine_split_68, ↓sLine_split_69, ↓sLine_split_72, ↓sLine_split_73, ↓sLine_split_74, ↓sLine_split_75, ↓sLine_split_76, ↓sLine_split_79, ↓sLine_split_80, ↓sLine_split_81, ↓sLine_split_84, ↓sLine_split_85, ↓sLine_split_88, ↓sLine_split_89, ↓rf_19_3, ↓sLine_split_92, ↓sLine_split_93, ↓sLine_split_96, ↓sLine_split_97, ↓sLine_split_98, ↓sLine_split_99, ↓sLine_split_100, ↓sLine_split_103, ↓sLine_split_106, ↓ln_20, ↓ln_21, ↓ln_22, ↓ln_23, List.set_cons_zero, List.set_cons_succ, List.length_cons, List.length_nil, List.contains_cons, List.contains_nil, cat1, brP_d, true_and, and_true, not_false_eq_true, not_true_eq_false, if_true, if_false, Bool.or_false, Bool.false_or, Bool.or_true, Bool.true_or, Bool.false_eq_true, Bool.or_self, false_implies, true_implies, forall_const, and_self, implies_true, true_or, or_true, or_false, false_or, or_self, Classical.not_not, Int.reduceAdd, Int.reduceSub, Int.reduceMul, Int.reduceNeg, Int.reduceToNat, Int.reduceLT, Int.reduceLE, Int.reduceEq, Int.reduceNe, Int.reduceNatCast', Nat.reduceAdd, Nat.reduceSub, Nat.reduceLeDiff, Nat.reduceLT, Nat.reduceEqDiff, Nat.reduceBEq, reduceIte, nx_w, nx_c, up_n, up_s, up_f, ne_eq, Nat.reduceEqDiff, Option.some.injEq, Prod.mk.injEq, exists_eq_left', reduceCtorEq, ar_20, ar_21]
  refine Wt.mono ?_ (l_Line_split (up h 19 5 0) (by rw [up_f (by decide)]; exact hm) (by rw [up_f (by decide), up_ne (by decide)]; exact hrc) ((h 19 4).toNat + 1) 0 0 (up h 19 5 0) (by rw [up_f (by decide)]; omega) (by omega) (by rw [up_f (by decide)]; exact hm.1) ⟨fun _ _ _ _ _ => rfl, fun _ _ => rfl⟩ (fun j hj => by omega) ?_)
  · rintro v sh' h' ⟨rfl, hv⟩
    refine ⟨rfl, ?_⟩
    obtain ⟨rfl, ⟨q1, q2⟩, q3, q4, q5⟩ := rtV_ex hv
    rw [up_f (by decide), up_ne (by decide)] at q3 q4 q5
    exact ⟨⟨fun a a1 a2 a3 a4 => by rw [q1 a a1 a2 a3 a4, up_ne a1], fun b hb => by rw [q2 b hb, up_f hb]⟩, q3, q4, q5⟩
  · have a5 : up h 19 5 0 19 5 = 0 := up_s
    rw [a5]
    unfold splP
    exact ⟨⟨by omega, by omega, fun k hk => by omega, fun j hj => by omega, fun k hk => by omega⟩, rfl, by omega, by omega, fun z => by omega, fun _ => Or.inl rfl⟩
