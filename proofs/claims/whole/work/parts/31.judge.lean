/-! the class's judge and update -/
theorem cntE_0 {f : Nat → Int} {w : Int} : ∀ n : Nat, cntE f w n = 0 → ∀ i, i < n → ¬ f i = w
  | 0, _, i, hi => absurd hi (Nat.not_lt_zero i)
  | n + 1, h, i, hi => by
    have hle := cntE_le f w n
    simp only [cntE] at h
    by_cases e : f n = w
    · rw [if_pos e] at h; omega
    · rw [if_neg e] at h
      by_cases e2 : i = n
      · rw [e2]; exact e
      · exact cntE_0 n (by omega) i (by omega)
theorem cntE_congr {f f' : Nat → Int} {w : Int} : ∀ n : Nat, (∀ i, i < n → f' i = f i) → cntE f' w n = cntE f w n
  | 0, _ => rfl
  | n + 1, h => by
    simp only [cntE]
    rw [cntE_congr n (fun i hi => h i (by omega)), h n (by omega)]
def verdR (h : HP) (n : Int) (tf wf : Nat → Int) (v c p x : Int) : Prop :=
  (n = 0 ∧ v = 1 ∧ c = -1 ∧ x = -1) ∨
  (0 < n ∧ 0 < cntE wf (-1) n.toNat ∧ x = -1 ∧ v = (if 1 < cntE wf (-1) n.toNat then 2 else 3) ∧ ∃ q : Nat, (q : Int) < n ∧ p = q ∧ c = tf q ∧ wf q = -1 ∧ ∀ j : Nat, j < q → ¬ wf j = -1) ∨
  (0 < n ∧ cntE wf (-1) n.toNat = 0 ∧ ((¬ isK h (wf 0) 0 ∧ v = 4 ∧ c = tf 0 ∧ x = -1) ∨ (isK h (wf 0) 0 ∧ (∃ q : Nat, (q : Int) < n ∧ h 13 (wf q).toNat = 0 ∧ (∀ j : Nat, j < q → ¬ h 13 (wf j).toNat = 0) ∧ v = 5 ∧ c = tf q ∧ x = -1)) ∨ (isK h (wf 0) 0 ∧ (∀ m : Nat, (m : Int) < n → ¬ h 13 (wf m).toNat = 0) ∧ c = -1 ∧ fitF h wf n x ∧ v = (if x = -1 then 6 else 0))))
def jdF (h h' : HP) : Prop := (∀ a, a ≠ 24 → h' a = h a) ∧ ∀ b, b ≠ 8 → b ≠ 9 → b ≠ 10 → h' 24 b = h 24 b
theorem fitF_congr {h h' : HP} {wf : Nat → Int} {n x : Int} (e10 : h' 10 = h 10) (e11 : h' 11 = h 11) (e12 : h' 12 = h 12) (e15 : h' 15 = h 15) (e16 : h' 16 = h 16) (e17 : h' 17 = h 17) (e18 : h' 18 = h 18) : fitF h' wf n x ↔ fitF h wf n x := by
  unfold fitF fitR begP asP isK
  rw [e10, e11, e12, e15, e16, e17, e18]
set_option maxRecDepth 100000 in
set_option maxHeartbeats 4000000 in
theorem t_Read_judge (h : HP) (hW : CW h) (hR : CR h) (hn : 0 ≤ h 24 6 ∧ h 24 6 ≤ 10) (hw : ∀ m : Nat, (m : Int) < h 24 6 → h 26 m = -1 ∨ (0 ≤ h 26 m ∧ h 26 m < h 10 4)) (h8 : h 24 8 = -1) (h10 : h 24 10 = -1) : trI mRead_judge [.inr (.inr 24)] SH0 h (fun r h' => jdF h h' ∧ verdR h (h 24 6) (h 25) (h 26) r (h' 24 8) (h' 24 9) (h' 24 10)) := by
  refine startI [some (.inr (.inr 24)), none, none] mRead_judge_c (go [9999] 400 (k := ?_))
  simp (config := {maxSteps := 1000000}) only [↓pI_c, ↓pR_c, ↓pJ_c, ↓pV_c, ↓popN_0, ↓popN_s, ↓lI_0, ↓lR_0, ↓lJ_0, ↓lI_s, ↓lR_s, ↓lJ_s, ↓okSt_0, ↓okSt_I, ↓okSt_R, ↓okSt_N, ↓okSt_s, ↓rtI_s, ↓rtV_n, ↓brP_t, ↓brP_f, ↓sRead_judge_0, ↓sRead_judge_1, ↓rf_24_6, ↓sRead_judge_4, ↓sRead_judge_7, ↓sRead_judge_8, ↓sRead_judge_9, ↓sRead_judge_10, ↓sRead_judge_13, ↓sRead_judge_14, ↓sRead_judge_15, ↓sRead_judge_18, ↓sRead_judge_19, ↓sRead_judge_20, ↓rf_24_4, ↓sRead_judge_23, ↓sRead_judge_24, ↓rf_24_9, ↓sRead_judge_27, ↓sRead_judge_28, ↓rf_24_8, ↓sRead_judge_31, ↓sRead_judge_32, ↓sRead_judge_33, ↓sRead_judge_36, ↓sRead_judge_37, ↓sRead_judge_40, ↓sRead_judge_41, ↓sRead_judge_42, ↓sRead_judge_43, ↓rf_24_2, ↓sRead_judge_46, ↓sRead_judge_47, ↓rf_24_5, ↓sRead_judge_50, ↓sRead_judge_51, ↓sRead_judge_52, ↓sRead_judge_53, ↓sRead_judge_56, ↓sRead_judge_59, ↓sRead_judge_60, ↓sRead_judge_61, ↓sRead_judge_64, ↓sRead_judge_65, ↓sRead_judge_66, ↓sRead_judge_69, ↓sRead_judge_70, ↓sRead_judge_71, ↓sRead_judge_72, ↓sRead_judge_75, ↓sRead_judge_76, ↓sRead_judge_77, ↓sRead_judge_78, ↓sRead_judge_81, ↓sRead_judge_82, ↓sRead_judge_83, ↓sRead_judge_86, ↓sRead_judge_87, ↓sRead_judge_88, ↓sRead_judge_91, ↓sRead_judge_92, ↓sRead_judge_93, ↓sRead_judge_94, ↓sRead_judge_95, ↓sRead_judge_98, ↓rf_24_10, ↓sRead_judge_101, ↓sRead_judge_102, ↓sRead_judge_105, ↓sRead_judge_106, ↓sRead_judge_109, ↓sRead_judge_111, ↓sRead_judge_114, ↓sRead_judge_115, ↓ln_25, ↓ln_26, List.set_cons_zero, List.set_cons_succ, List.length_cons, List.length_nil, List.contains_cons, List.contains_nil, cat1, brP_d, true_and, and_true, not_false_eq_true, not_true_eq_false, if_true, if_false, Bool.or_false, Bool.false_or, Bool.or_true, Bool.true_or, Bool.false_eq_true, Bool.or_self, false_implies, true_implies, forall_const, and_self, implies_true, true_or, or_true, or_false, false_or, or_self, Classical.not_not, Int.reduceAdd, Int.reduceSub, Int.reduceMul, Int.reduceNeg, Int.reduceToNat, Int.reduceLT, Int.reduceLE, Int.reduceEq, Int.reduceNe, Int.reduceNatCast', Nat.reduceAdd, Nat.reduceSub, Nat.reduceLeDiff, Nat.reduceLT, Nat.reduceEqDiff, Nat.reduceBEq, reduceIte, nx_w, nx_c, up_n, up_s, up_f, ne_eq, Nat.reduceEqDiff, Option.some.injEq, Prod.mk.injEq, exists_eq_left', reduceCtorEq, ob_24, ob_10]
  refine ⟨fun h1 => ?_, fun h1 => ⟨⟨fun _ _ => rfl, fun _ _ _ _ => rfl⟩, Or.inl ⟨h1, rfl, h8, h10⟩⟩⟩
  have hpos : 0 < h 24 6 := by omega
  refine trI_use (t_Read_findUnknown h hn) ?_
  intro c h' ⟨u1, u2, u3, u4⟩
  have g6 : h' 24 6 = h 24 6 := u3 6 (by decide)
  have g8 : h' 24 8 = -1 := by rw [u3 8 (by decide)]; exact h8
  have g10 : h' 24 10 = -1 := by rw [u3 10 (by decide)]; exact h10
  have g25 : h' 25 = h 25 := u2 25 (by decide)
  have g26 : h' 26 = h 26 := u2 26 (by decide)
  have gg : ∀ a, a ≠ 24 → h' a = h a := u2
  have hc := cntE_le (h 26) (-1) (h 24 6).toNat
  have fr : jdF h h' := ⟨u2, fun b b1 b2 b3 => u3 b b2⟩
  simp only [g25, g26]
  constructor
  · intro h2
    have hc0 : cntE (h 26) (-1) (h 24 6).toNat = 0 := by omega
    have hk := cntE_0 _ hc0
    have hw' : ∀ m : Nat, (m : Int) < h 24 6 → 0 ≤ h 26 m ∧ h 26 m < h 10 4 := fun m hm => by
      rcases hw m hm with z | z
      · exact absurd z (hk m (by omega))
      · exact z
    refine use_p (t_Words_isOf h' (h 26 0) 0 (by rw [gg 10 (by decide)]; exact hW.2.1)) ?_
    rw [gg 10 (by decide), gg 11 (by decide)]
    by_cases hv : 0 ≤ h 26 0 ∧ h 26 0 < h 10 4 ∧ h 11 (h 26 0).toNat = 0
    · simp only [b2, if_pos hv, show ¬ (1 : Int) = 0 by decide, not_false_eq_true, true_implies, false_implies, and_true, not_true_eq_false]
      refine use_q (t_Read_findHidden h' (by rw [g6]; exact hn) (by rw [g6, g26]; intro m hm; have := hw' m hm; have := hW.2.1; omega)) ?_
      intro x hx
      unfold hidF at hx
      rw [g6, g26, gg 13 (by decide)] at hx
      rcases hx with ⟨rfl, hx⟩ | ⟨q, q1, rfl, q2, q3⟩
      · simp only [not_true_eq_false, false_implies, true_implies, true_and, and_true]
        refine trI_use (t_Read_findFitting h' (by unfold CW; rw [gg 10 (by decide), gg 11 (by decide), gg 13 (by decide), gg 14 (by decide)]; exact hW) (by unfold CR okTok; rw [gg 10 (by decide), gg 11 (by decide), gg 15 (by decide), gg 16 (by decide), gg 17 (by decide), gg 18 (by decide)]; exact hR) (by rw [g6]; omega)) ?_
        rintro x h2 ⟨rfl, hx2⟩
        rw [g6, g26, fitF_congr (gg 10 (by decide)) (gg 11 (by decide)) (gg 12 (by decide)) (gg 15 (by decide)) (gg 16 (by decide)) (gg 17 (by decide)) (gg 18 (by decide))] at hx2
        have fr2 : jdF h (up h2 24 10 x) := ⟨fun a ha => by rw [up_ne ha]; exact u2 a ha, fun b b1 b2 b3 => by rw [up_f b3]; exact u3 b b2⟩
        refine ⟨fun h3 => ⟨fr2, Or.inr (Or.inr ⟨hpos, hc0, Or.inr (Or.inr ⟨hv, hx, g8, hx2, by rw [if_neg h3]⟩)⟩)⟩, fun h3 => ⟨fr2, Or.inr (Or.inr ⟨hpos, hc0, Or.inr (Or.inr ⟨hv, hx, g8, hx2, by rw [if_pos h3]⟩)⟩)⟩⟩
      · have : ¬ (q : Int) = -1 := by omega
        simp only [this, not_false_eq_true, true_implies, false_implies, and_true, true_and]
        refine ⟨by omega, ⟨fun a ha => by rw [up_ne ha]; exact u2 a ha, fun b b1 b2 b3 => by rw [up_f b1]; exact u3 b b2⟩, Or.inr (Or.inr ⟨hpos, hc0, Or.inr (Or.inl ⟨hv, q, q1, q2, q3, rfl, by rw [show (q : Int).toNat = q by omega, g25], g10⟩)⟩)⟩
    · simp only [b2, if_neg hv, not_true_eq_false, false_implies, true_implies, true_and]
      exact ⟨⟨fun a ha => by rw [up_ne ha]; exact u2 a ha, fun b b1 b2 b3 => by rw [up_f b1]; exact u3 b b2⟩, Or.inr (Or.inr ⟨hpos, hc0, Or.inl ⟨hv, rfl, by rw [g25], g10⟩⟩)⟩
  · intro h2
    have hcp : 0 < cntE (h 26) (-1) (h 24 6).toNat := by rw [← u1]; exact Int.not_le.mp h2
    obtain ⟨q, q1, q2, q3, q4⟩ := u4 (Int.not_le.mp h2)
    clear u4
    rw [q2]
    have fr2 : ∀ z, jdF h (up h' 24 8 z) := fun z => ⟨fun a ha => by rw [up_ne ha]; exact u2 a ha, fun b b1 b2 b3 => by rw [up_f b1]; exact u3 b b2⟩
    have hq : (q : Int).toNat = q := by omega
    refine ⟨by omega, fun h3 => ⟨fr2 _, Or.inr (Or.inl ⟨hpos, hcp, g10, by rw [if_neg (by rw [← u1]; exact Int.not_lt.mpr h3)], q, q1, rfl, by rw [hq], q3, q4⟩)⟩, fun h3 => ⟨fr2 _, Or.inr (Or.inl ⟨hpos, hcp, g10, by rw [if_pos (by rw [← u1]; exact Int.not_le.mp h3)], q, q1, rfl, by rw [hq], q3, q4⟩)⟩⟩

def qUpd (h h' : HP) : Prop := rdF h h' ∧ h' 24 6 = mN h ∧ (∀ i : Nat, (i : Int) < mN h → h' 25 i = mT h i ∧ h' 26 i = mW h i) ∧ verdR h (mN h) (fun i => mT h i) (mW h) (h' 24 7) (h' 24 8) (h' 24 9) (h' 24 10)
theorem mN_in {h : HP} (hl : CL0 h) : 0 ≤ mN h ∧ mN h ≤ 10 := by
  have := mL_len h (h 19 5).toNat
  have h1 := hl.2.2.2.1.1
  have h2 := hl.2.2.2.1.2.1
  unfold mN
  omega
theorem begP_wf {h : HP} {wf wf' : Nat → Int} {n : Int} {r : Nat} (hn : 0 < n) (e : ∀ i : Nat, (i : Int) < n → wf' i = wf i) : begP h wf' n r ↔ begP h wf n r := by
  unfold begP
  rw [e 0 (by omega)]
  constructor
  · rintro ⟨h1, h2, h3⟩
    exact ⟨h1, h2, fun t ht => by rw [← e (t + 1) (by push_cast; omega)]; exact h3 t ht⟩
  · rintro ⟨h1, h2, h3⟩
    exact ⟨h1, h2, fun t ht => by rw [e (t + 1) (by push_cast; omega)]; exact h3 t ht⟩
theorem fitF_wf {h : HP} {wf wf' : Nat → Int} {n x : Int} (hn : 0 < n) (e : ∀ i : Nat, (i : Int) < n → wf' i = wf i) : fitF h wf' n x ↔ fitF h wf n x := by
  unfold fitF fitR
  simp only [begP_wf hn e]
theorem verdR_wf {h : HP} {n v c p x : Int} {tf wf tf' wf' : Nat → Int} (h0 : 0 ≤ n) (e : ∀ i : Nat, (i : Int) < n → tf' i = tf i ∧ wf' i = wf i) (k : verdR h n tf' wf' v c p x) : verdR h n tf wf v c p x := by
  unfold verdR at *
  rw [cntE_congr (f := wf) (f' := wf') n.toNat (fun i hi => (e i (by omega)).2)] at k
  rcases k with k | ⟨k1, k2, k3, k4, q, q1, q2, q3, q4, q5⟩ | ⟨k1, k2, k3⟩
  · exact Or.inl k
  · exact Or.inr (Or.inl ⟨k1, k2, k3, k4, q, q1, q2, by rw [← (e q q1).1]; exact q3, by rw [← (e q q1).2]; exact q4, fun j hj => by rw [← (e j (by omega)).2]; exact q5 j hj⟩)
  · rw [(e 0 (by omega)).1, (e 0 (by omega)).2, fitF_wf k1 (fun i hi => (e i hi).2)] at k3
    refine Or.inr (Or.inr ⟨k1, k2, ?_⟩)
    rcases k3 with k3 | ⟨k3, q, q1, q2, q3, q4, q5, q6⟩ | ⟨k3, k4, k5⟩
    · exact Or.inl k3
    · exact Or.inr (Or.inl ⟨k3, q, q1, by rw [← (e q q1).2]; exact q2, fun j hj => by rw [← (e j (by omega)).2]; exact q3 j hj, q4, by rw [← (e q q1).1]; exact q5, q6⟩)
    · exact Or.inr (Or.inr ⟨k3, fun m hm => by rw [← (e m hm).2]; exact k4 m hm, k5⟩)
theorem verdR_h {h h' : HP} {n v c p x : Int} {tf wf : Nat → Int} (e10 : h' 10 = h 10) (e11 : h' 11 = h 11) (e12 : h' 12 = h 12) (e13 : h' 13 = h 13) (e15 : h' 15 = h 15) (e16 : h' 16 = h 16) (e17 : h' 17 = h 17) (e18 : h' 18 = h 18) : verdR h' n tf wf v c p x ↔ verdR h n tf wf v c p x := by
  unfold verdR
  simp only [fitF_congr e10 e11 e12 e15 e16 e17 e18]
  unfold isK
  rw [e10, e11, e13]
set_option maxRecDepth 100000 in
set_option maxHeartbeats 4000000 in
theorem t_Read_update (h : HP) (hC : CI h) : trV mRead_update [.inr (.inr 24)] SH0 h (qUpd h) := by
  obtain ⟨hW, hN, hR, hS, hL⟩ := hC
  have hn := mN_in hL
  refine startV [some (.inr (.inr 24))] mRead_update_c (go [9999] 400 (k := ?_))
  simp (config := {maxSteps := 1000000}) only [↓pI_c, ↓pR_c, ↓pJ_c, ↓pV_c, ↓popN_0, ↓popN_s, ↓lI_0, ↓lR_0, ↓lJ_0, ↓lI_s, ↓lR_s, ↓lJ_s, ↓okSt_0, ↓okSt_I, ↓okSt_R, ↓okSt_N, ↓okSt_s, ↓rtI_s, ↓rtV_n, ↓brP_t, ↓brP_f, ↓sRead_update_0, ↓sRead_update_1, ↓sRead_update_4, ↓sRead_update_5, ↓sRead_update_6, ↓rf_24_8, ↓sRead_update_9, ↓sRead_update_10, ↓sRead_update_11, ↓rf_24_9, ↓sRead_update_14, ↓sRead_update_15, ↓sRead_update_16, ↓rf_24_10, ↓sRead_update_19, ↓sRead_update_20, ↓sRead_update_21, ↓sRead_update_24, ↓rf_24_7, ↓sRead_update_27, List.set_cons_zero, List.set_cons_succ, List.length_cons, List.length_nil, List.contains_cons, List.contains_nil, cat1, brP_d, true_and, and_true, not_false_eq_true, not_true_eq_false, if_true, if_false, Bool.or_false, Bool.false_or, Bool.or_true, Bool.true_or, Bool.false_eq_true, Bool.or_self, false_implies, true_implies, forall_const, and_self, implies_true, true_or, or_true, or_false, false_or, or_self, Classical.not_not, Int.reduceAdd, Int.reduceSub, Int.reduceMul, Int.reduceNeg, Int.reduceToNat, Int.reduceLT, Int.reduceLE, Int.reduceEq, Int.reduceNe, Int.reduceNatCast', Nat.reduceAdd, Nat.reduceSub, Nat.reduceLeDiff, Nat.reduceLT, Nat.reduceEqDiff, Nat.reduceBEq, reduceIte, nx_w, nx_c, up_n, up_s, up_f, ne_eq, Nat.reduceEqDiff, Option.some.injEq, Prod.mk.injEq, exists_eq_left', reduceCtorEq, ob_24]
  refine trV_use (t_Read_collectMeant h hW hN hL) ?_
  intro h1 ⟨q1, q2, q3⟩
  have g : ∀ a, a ≠ 24 → up (up (up h1 24 8 (-1)) 24 9 (-1)) 24 10 (-1) a = h1 a := fun a ha => by rw [up_ne ha, up_ne ha, up_ne ha]
  have gh : ∀ a, a < 24 → up (up (up h1 24 8 (-1)) 24 9 (-1)) 24 10 (-1) a = h a := fun a ha => by rw [g a (by omega)]; exact q1.1 a (by omega) (by omega) (by omega)
  have g6 : up (up (up h1 24 8 (-1)) 24 9 (-1)) 24 10 (-1) 24 6 = mN h := by rw [up_f (by decide), up_f (by decide), up_f (by decide)]; exact q2
  have g8 : up (up (up h1 24 8 (-1)) 24 9 (-1)) 24 10 (-1) 24 8 = -1 := by rw [up_f (by decide), up_f (by decide), up_s]
  have g10 : up (up (up h1 24 8 (-1)) 24 9 (-1)) 24 10 (-1) 24 10 = -1 := up_s
  have harr : ∀ i : Nat, (i : Int) < mN h → h1 25 i = mT h i ∧ h1 26 i = mW h i := fun i hi => by
    unfold mN at hi
    exact q3 i (by omega)
  refine trI_use (t_Read_judge _ (by unfold CW; rw [gh 10 (by decide), gh 11 (by decide), gh 13 (by decide), gh 14 (by decide)]; exact hW) (by unfold CR okTok; rw [gh 10 (by decide), gh 11 (by decide), gh 15 (by decide), gh 16 (by decide), gh 17 (by decide), gh 18 (by decide)]; exact hR) (by rw [g6]; exact hn) (by
    rw [g6, gh 10 (by decide), g 26 (by decide)]
    intro m hm
    rw [(harr m hm).2]
    exact wd_in hN _) g8 g10) ?_
  intro v h2 ⟨⟨j1, j2⟩, j3⟩
  rw [g6, g 25 (by decide), g 26 (by decide), verdR_h (gh 10 (by decide)) (gh 11 (by decide)) (gh 12 (by decide)) (gh 13 (by decide)) (gh 15 (by decide)) (gh 16 (by decide)) (gh 17 (by decide)) (gh 18 (by decide))] at j3
  have e25 : h2 25 = h1 25 := by rw [j1 25 (by decide)]; exact g 25 (by decide)
  have e26 : h2 26 = h1 26 := by rw [j1 26 (by decide)]; exact g 26 (by decide)
  refine ⟨⟨fun a a1 a2 a3 => by rw [up_ne a1, j1 a a1, g a a1]; exact q1.1 a a1 a2 a3, fun b hb => by rw [up_f (by omega), j2 b (by omega) (by omega) (by omega), up_f (by omega), up_f (by omega), up_f (by omega)]; exact q1.2 b hb⟩, by rw [up_f (by decide), j2 6 (by decide) (by decide) (by decide)]; exact g6, fun i hi => by rw [up_n (by decide), up_n (by decide), e25, e26]; exact harr i hi, ?_⟩
  rw [up_s, up_f (by decide), up_f (by decide), up_f (by decide)]
  exact verdR_wf hn.1 harr j3
