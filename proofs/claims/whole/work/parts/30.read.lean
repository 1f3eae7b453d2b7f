/-! the class's reading: what is meant, the verdict -/
def bP (c : Prop) (r : Int) : Prop := (r = 1 ∧ c) ∨ (r = 0 ∧ ¬ c)
def CW (h : HP) : Prop := 0 ≤ h 10 4 ∧ h 10 4 ≤ 60 ∧ (∀ j : Nat, (j : Int) < h 10 4 → 0 ≤ h 11 j ∧ h 11 j ≤ 3 ∧ (¬ h 11 j = 1 → h 13 j = 1)) ∧ ∀ j : Nat, j < 60 → (h 13 j = 0 ∨ h 13 j = 1) ∧ (h 14 j = 0 ∨ h 14 j = 1)
def CN (h : HP) : Prop := 0 ≤ h 6 3 ∧ h 6 3 ≤ 90 ∧ (∀ k : Nat, (k : Int) < h 6 3 → 1 ≤ h 8 k ∧ h 8 k ≤ 12 ∧ 0 ≤ h 9 k ∧ h 9 k < h 10 4 ∧ ∀ i : Nat, (i : Int) < h 8 k → 0 ≤ h 7 (12 * k + i) ∧ h 7 (12 * k + i) ≤ 25) ∧ (∀ k k' : Nat, (k : Int) < h 6 3 → (k' : Int) < h 6 3 → mt h (fun i => h 7 (12 * k' + i)) (h 8 k') k → k = k') ∧ ∀ w : Int, 0 ≤ w → w < h 10 4 → ∃ k : Nat, (k : Int) < h 6 3 ∧ h 9 k = w
def CR (h : HP) : Prop := 0 ≤ h 15 3 ∧ h 15 3 ≤ 40 ∧ (∀ k : Nat, (k : Int) < h 15 3 → 0 ≤ h 16 k ∧ h 16 k < h 10 4 ∧ h 11 (h 16 k).toNat = 0 ∧ ∀ i : Nat, (i : Int) < h 17 k → okTok h (h 18 (4 * k + i))) ∧ ∀ k : Nat, k < 40 → 0 ≤ h 17 k ∧ h 17 k ≤ 4
def CS (h : HP) : Prop := (∀ j : Nat, j < 9 → setLo j ≤ h 4 j ∧ h 4 j ≤ setHi j) ∧ ∀ j : Nat, j < 676 → h 5 j = 0 ∨ h 5 j = 1
def CL0 (h : HP) : Prop := 0 ≤ h 19 4 ∧ h 19 4 ≤ 92 ∧ (∀ j : Nat, (j : Int) < h 19 4 → 0 ≤ h 20 j ∧ h 20 j ≤ 255 ∧ h 21 j = lOf (h 20 j)) ∧ IRuns h (h 19 4) (h 19 5) (h 20) (h 22) (h 23) ∧ h 19 5 = rc (h 20) (h 19 4).toNat ∧ (80 < h 19 4 → ∀ k : Nat, (k : Int) < h 19 5 → known h (tw h k) (h 23 k))
def CI (h : HP) : Prop := CW h ∧ CN h ∧ CR h ∧ CS h ∧ CL0 h
def asP (h : HP) (w t : Int) : Prop := if 0 ≤ t then w = t else (isK h w 1 ∧ (t = -1 ∨ band (bshr (h 12 w.toNat) (wr (-2 - t))) 1 = 1))
set_option maxRecDepth 100000 in
set_option maxHeartbeats 4000000 in
theorem t_Words_isAs (h : HP) (w t : Int) (hw : 0 ≤ h 10 4 ∧ h 10 4 ≤ 60) : trI mWords_isAs [.inr (.inr 10), .inl w, .inl t] SH0 h (fun r h' => h' = h ∧ bP (asP h w t) r) := by
  refine startI [some (.inr (.inr 10)), some (.inl w), some (.inl t)] mWords_isAs_c (go [9999] 400 (k := ?_))
  simp (config := {maxSteps := 1000000}) only [↓pI_c, ↓pR_c, ↓pJ_c, ↓pV_c, ↓popN_0, ↓popN_s, ↓lI_0, ↓lR_0, ↓lJ_0, ↓lI_s, ↓lR_s, ↓lJ_s, ↓okSt_0, ↓okSt_I, ↓okSt_R, ↓okSt_N, ↓okSt_s, ↓rtI_s, ↓rtV_n, ↓brP_t, ↓brP_f, ↓sWords_isAs_0, ↓sWords_isAs_1, ↓sWords_isAs_4, ↓sWords_isAs_5, ↓sWords_isAs_6, ↓sWords_isAs_9, ↓sWords_isAs_10, ↓sWords_isAs_13, ↓sWords_isAs_14, ↓sWords_isAs_15, ↓sWords_isAs_16, ↓sWords_isAs_17, ↓sWords_isAs_18, ↓sWords_isAs_21, ↓sWords_isAs_24, ↓sWords_isAs_25, ↓sWords_isAs_26, ↓sWords_isAs_27, ↓sWords_isAs_28, ↓sWords_isAs_31, ↓sWords_isAs_32, ↓rf_10_1, ↓sWords_isAs_35, ↓sWords_isAs_36, ↓sWords_isAs_37, ↓sWords_isAs_39, ↓sWords_isAs_40, ↓sWords_isAs_41, ↓sWords_isAs_42, ↓sWords_isAs_43, ↓sWords_isAs_44, ↓sWords_isAs_45, ↓sWords_isAs_48, ↓sWords_isAs_49, ↓sWords_isAs_52, ↓sWords_isAs_53, ↓ln_12, List.set_cons_zero, List.set_cons_succ, List.length_cons, List.length_nil, List.contains_cons, List.contains_nil, cat1, brP_d, true_and, and_true, not_false_eq_true, not_true_eq_false, if_true, if_false, Bool.or_false, Bool.false_or, Bool.or_true, Bool.true_or, Bool.false_eq_true, Bool.or_self, false_implies, true_implies, forall_const, and_self, implies_true, true_or, or_true, or_false, false_or, or_self, Classical.not_not, Int.reduceAdd, Int.reduceSub, Int.reduceMul, Int.reduceNeg, Int.reduceToNat, Int.reduceLT, Int.reduceLE, Int.reduceEq, Int.reduceNe, Int.reduceNatCast', Nat.reduceAdd, Nat.reduceSub, Nat.reduceLeDiff, Nat.reduceLT, Nat.reduceEqDiff, Nat.reduceBEq, reduceIte, nx_w, nx_c, up_n, up_s, up_f, ne_eq, Nat.reduceEqDiff, Option.some.injEq, Prod.mk.injEq, exists_eq_left', reduceCtorEq, ob_10]
  refine ⟨fun h1 => ?_, fun h1 => ?_⟩
  · refine use_p (t_Words_isOf h w 1 hw.2) ?_
    by_cases hk : 0 ≤ w ∧ w < h 10 4 ∧ h 11 w.toNat = 1
    · simp only [bP, asP, if_neg (show ¬ 0 ≤ t by omega), isK, b2, if_pos hk, hk, true_and, show ¬ (1 : Int) = 0 by decide, not_false_eq_true, true_implies, false_implies, and_true]
      grind
    · simp only [bP, asP, if_neg (show ¬ 0 ≤ t by omega), isK, b2, if_neg hk]
      grind
  · simp only [bP, asP, if_pos (show 0 ≤ t by omega)]
    grind
set_option maxRecDepth 100000 in
set_option maxHeartbeats 4000000 in
theorem t_Rules_tokenAt (h : HP) (r t : Int) (hr : 0 ≤ r ∧ r < 40) (ht : 0 ≤ t ∧ t < 4) : trI mRules_tokenAt [.inr (.inr 15), .inl r, .inl t] SH0 h (fun x h' => h' = h ∧ x = h 18 (4 * r.toNat + t.toNat)) := by
  refine startI [some (.inr (.inr 15)), some (.inl r), some (.inl t)] mRules_tokenAt_c (go [9999] 400 (k := ?_))
  simp (config := {maxSteps := 1000000}) only [↓pI_c, ↓pR_c, ↓pJ_c, ↓pV_c, ↓popN_0, ↓popN_s, ↓lI_0, ↓lR_0, ↓lJ_0, ↓lI_s, ↓lR_s, ↓lJ_s, ↓okSt_0, ↓okSt_I, ↓okSt_R, ↓okSt_N, ↓okSt_s, ↓rtI_s, ↓rtV_n, ↓brP_t, ↓brP_f, ↓sRules_tokenAt_0, ↓sRules_tokenAt_1, ↓rf_15_2, ↓sRules_tokenAt_4, ↓sRules_tokenAt_5, ↓sRules_tokenAt_6, ↓sRules_tokenAt_7, ↓sRules_tokenAt_8, ↓sRules_tokenAt_9, ↓sRules_tokenAt_10, ↓ln_18, List.set_cons_zero, List.set_cons_succ, List.length_cons, List.length_nil, List.contains_cons, List.contains_nil, cat1, brP_d, true_and, and_true, not_false_eq_true, not_true_eq_false, if_true, if_false, Bool.or_false, Bool.false_or, Bool.or_true, Bool.true_or, Bool.false_eq_true, Bool.or_self, false_implies, true_implies, forall_const, and_self, implies_true, true_or, or_true, or_false, false_or, or_self, Classical.not_not, Int.reduceAdd, Int.reduceSub, Int.reduceMul, Int.reduceNeg, Int.reduceToNat, Int.reduceLT, Int.reduceLE, Int.reduceEq, Int.reduceNe, Int.reduceNatCast', Nat.reduceAdd, Nat.reduceSub, Nat.reduceLeDiff, Nat.reduceLT, Nat.reduceEqDiff, Nat.reduceBEq, reduceIte, nx_w, nx_c, up_n, up_s, up_f, ne_eq, Nat.reduceEqDiff, Option.some.injEq, Prod.mk.injEq, exists_eq_left', reduceCtorEq]
  rw [wr_id (x := r * 4) (by omega) (by omega), wr_id (x := r * 4 + t) (by omega) (by omega), show (r * 4 + t).toNat = 4 * r.toNat + t.toNat by omega]
  exact ⟨by omega, rfl⟩
/-- the word that typed word k is, -1 if it is none -/
noncomputable def wd0 (n : Int) (f8 f7 f9 r : Nat → Int) (l : Int) : Int := @dite _ (∃ k : Nat, (k : Int) < n ∧ f8 k = l ∧ ∀ i : Nat, (i : Int) < l → f7 (12 * k + i) = r i) (Classical.propDecidable _) (fun e => f9 (Classical.choose e)) (fun _ => -1)
noncomputable def wd (h : HP) (k : Nat) : Int := wd0 (h 6 3) (h 8) (h 7) (h 9) (tw h k) (h 23 k)
theorem mt_uni {h : HP} (hn : CN h) {r : Nat → Int} {l : Int} {k k' : Nat} (h1 : (k : Int) < h 6 3) (h2 : (k' : Int) < h 6 3) (m1 : mt h r l k) (m2 : mt h r l k') : k = k' :=
  hn.2.2.2.1 k k' h1 h2 ⟨by rw [m1.1, m2.1], fun i hi => by rw [m1.2 i (by rw [← m2.1]; exact hi)]; exact (m2.2 i (by rw [← m2.1]; exact hi)).symm⟩
theorem wd_some {h : HP} (hn : CN h) {k n : Nat} (h1 : (n : Int) < h 6 3) (m1 : mt h (tw h k) (h 23 k) n) : wd h k = h 9 n := by
  have e : ∃ j : Nat, (j : Int) < h 6 3 ∧ h 8 j = h 23 k ∧ ∀ i : Nat, (i : Int) < h 23 k → h 7 (12 * j + i) = tw h k i := ⟨n, h1, m1.1, m1.2⟩
  unfold wd wd0
  rw [dif_pos e, mt_uni hn (Classical.choose_spec e).1 h1 (Classical.choose_spec e).2 m1]
theorem wd_none {h : HP} {k : Nat} (hno : ∀ n : Nat, (n : Int) < h 6 3 → ¬ mt h (tw h k) (h 23 k) n) : wd h k = -1 := by
  unfold wd wd0
  rw [dif_neg (fun ⟨n, h1, m1⟩ => hno n h1 m1)]
theorem wd_in {h : HP} (hn : CN h) (k : Nat) : wd h k = -1 ∨ (0 ≤ wd h k ∧ wd h k < h 10 4) := by
  by_cases e : known h (tw h k) (h 23 k)
  · obtain ⟨n, h1, m1⟩ := e
    rw [wd_some hn h1 m1]
    have := hn.2.2.1 n h1
    omega
  · exact Or.inl (wd_none (fun n h1 m1 => e ⟨n, h1, m1⟩))
theorem wd_known {h : HP} (hn : CN h) (k : Nat) : ¬ wd h k = -1 ↔ known h (tw h k) (h 23 k) := by
  constructor
  · intro hw
    rcases Classical.em (known h (tw h k) (h 23 k)) with e | e
    · exact e
    · exact absurd (wd_none (fun n h1 m1 => e ⟨n, h1, m1⟩)) hw
  · rintro ⟨n, h1, m1⟩
    rw [wd_some hn h1 m1]
    have := hn.2.2.1 n h1
    omega
set_option maxRecDepth 100000 in
set_option maxHeartbeats 4000000 in
theorem t_Read_wordOfTyped (h : HP) (k : Int) (hn : CN h) (hl : CL0 h) (hk : 0 ≤ k ∧ k < h 19 5) : trI mRead_wordOfTyped [.inr (.inr 24), .inl k] SH0 h (fun r h' => h' = h ∧ r = wd h k.toNat) := by
  obtain ⟨l1, l2, l3, l4, l5, l6⟩ := hl
  have r := l4.2.2.1 k.toNat (by omega)
  have r10 := l4.2.1
  refine startI [some (.inr (.inr 24)), some (.inl k), none] mRead_wordOfTyped_c (go [9999] 400 (k := ?_))
  simp (config := {maxSteps := 1000000}) only [↓pI_c, ↓pR_c, ↓pJ_c, ↓pV_c, ↓popN_0, ↓popN_s, ↓lI_0, ↓lR_0, ↓lJ_0, ↓lI_s, ↓lR_s, ↓lJ_s, ↓okSt_0, ↓okSt_I, ↓okSt_R, ↓okSt_N, ↓okSt_s, ↓rtI_s, ↓rtV_n, ↓brP_t, ↓brP_f, ↓sRead_wordOfTyped_0, ↓sRead_wordOfTyped_1, ↓rf_24_1, ↓sRead_wordOfTyped_4, ↓sRead_wordOfTyped_5, ↓rf_24_0, ↓sRead_wordOfTyped_8, ↓rf_19_1, ↓sRead_wordOfTyped_11, ↓sRead_wordOfTyped_12, ↓sRead_wordOfTyped_15, ↓rf_19_2, ↓sRead_wordOfTyped_18, ↓sRead_wordOfTyped_19, ↓sRead_wordOfTyped_20, ↓sRead_wordOfTyped_21, ↓sRead_wordOfTyped_24, ↓rf_19_3, ↓sRead_wordOfTyped_27, ↓sRead_wordOfTyped_28, ↓sRead_wordOfTyped_29, ↓sRead_wordOfTyped_32, ↓sRead_wordOfTyped_33, ↓sRead_wordOfTyped_34, ↓sRead_wordOfTyped_35, ↓sRead_wordOfTyped_38, ↓sRead_wordOfTyped_39, ↓sRead_wordOfTyped_42, ↓sRead_wordOfTyped_43, ↓sRead_wordOfTyped_46, ↓rf_6_2, ↓sRead_wordOfTyped_49, ↓sRead_wordOfTyped_50, ↓sRead_wordOfTyped_51, ↓ln_9, ↓ln_21, ↓ln_22, ↓ln_23, List.set_cons_zero, List.set_cons_succ, List.length_cons, List.length_nil, List.contains_cons, List.contains_nil, cat1, brP_d, true_and, and_true, not_false_eq_true, not_true_eq_false, if_true, if_false, Bool.or_false, Bool.false_or, Bool.or_true, Bool.true_or, Bool.false_eq_true, Bool.or_self, false_implies, true_implies, forall_const, and_self, implies_true, true_or, or_true, or_false, false_or, or_self, Classical.not_not, Int.reduceAdd, Int.reduceSub, Int.reduceMul, Int.reduceNeg, Int.reduceToNat, Int.reduceLT, Int.reduceLE, Int.reduceEq, Int.reduceNe, Int.reduceNatCast', Nat.reduceAdd, Nat.reduceSub, Nat.reduceLeDiff, Nat.reduceLT, Nat.reduceEqDiff, Nat.reduceBEq, reduceIte, nx_w, nx_c, up_n, up_s, up_f, ne_eq, Nat.reduceEqDiff, Option.some.injEq, Prod.mk.injEq, exists_eq_left', reduceCtorEq, ob_6]
  refine ⟨by omega, by omega, ?_⟩
  refine use_q (t_Names_find h 21 92 (h 22 k.toNat) (h 23 k.toNat) (fun f => ln_21.2) (by omega) (by omega) ⟨hn.1, hn.2.1⟩ (fun n h1 => (hn.2.2.1 n h1).2.1)) ?_
  intro x hx
  rcases hx with ⟨rfl, hno⟩ | ⟨n, h1, rfl, m1⟩
  · simp only [not_true_eq_false, false_implies, true_implies, true_and]
    exact (wd_none hno).symm
  · have : ¬ (n : Int) = -1 := by omega
    simp only [this, not_false_eq_true, true_implies, false_implies, and_true, not_true_eq_false]
    exact ⟨by have := hn.2.1; omega, trivial, by rw [show (n : Int).toNat = n by omega]; exact (wd_some hn h1 m1).symm⟩
def idle (h : HP) (k : Nat) : Prop := isK h (wd h k) 3
/-- the typed words among the first n that are meant -/
noncomputable def mL (h : HP) : Nat → List Nat
  | 0 => []
  | n + 1 => @ite _ (idle h n) (Classical.propDecidable _) (mL h n) (mL h n ++ [n])
theorem mL_len (h : HP) : ∀ n : Nat, (mL h n).length ≤ n
  | 0 => Nat.le_refl _
  | n + 1 => by
    have := mL_len h n
    unfold mL
    split
    · omega
    · simp; omega
theorem mL_lt (h : HP) : ∀ (n x : Nat), x ∈ mL h n → x < n
  | 0, x, hx => by cases hx
  | n + 1, x, hx => by
    unfold mL at hx
    split at hx
    · have := mL_lt h n x hx; omega
    · rcases List.mem_append.mp hx with q | q
      · have := mL_lt h n x q; omega
      · rw [List.mem_singleton.mp q]; omega
/-- what is meant, by places: the typed word, the word -/
noncomputable def mT (h : HP) (i : Nat) : Nat := (mL h (h 19 5).toNat).getD i 0
noncomputable def mN (h : HP) : Int := (mL h (h 19 5).toNat).length
noncomputable def mW (h : HP) (i : Nat) : Int := wd h (mT h i)
def rdF (h0 h : HP) : Prop := (∀ a, a ≠ 24 → a ≠ 25 → a ≠ 26 → h a = h0 a) ∧ ∀ b, b < 6 → h 24 b = h0 24 b
def mArr (h0 h : HP) (n : Nat) : Prop := h 24 6 = (mL h0 n).length ∧ ∀ i : Nat, i < (mL h0 n).length → h 25 i = (mL h0 n).getD i 0 ∧ h 26 i = wd h0 ((mL h0 n).getD i 0)
theorem CN_congr {h h' : HP} (e6 : h' 6 = h 6) (e7 : h' 7 = h 7) (e8 : h' 8 = h 8) (e9 : h' 9 = h 9) (e10 : h' 10 = h 10) (hn : CN h) : CN h' := by
  unfold CN mt at *
  rw [e6, e7, e8, e9, e10]
  exact hn
theorem CL0_congr {h h' : HP} (e6 : h' 6 = h 6) (e7 : h' 7 = h 7) (e8 : h' 8 = h 8) (e19 : h' 19 = h 19) (e20 : h' 20 = h 20) (e21 : h' 21 = h 21) (e22 : h' 22 = h 22) (e23 : h' 23 = h 23) (hl : CL0 h) : CL0 h' := by
  unfold CL0 IRuns known mt tw at *
  rw [e6, e7, e8, e19, e20, e21, e22, e23]
  exact hl
theorem wd_congr {h h' : HP} (e6 : h' 6 = h 6) (e7 : h' 7 = h 7) (e8 : h' 8 = h 8) (e9 : h' 9 = h 9) (e21 : h' 21 = h 21) (e22 : h' 22 = h 22) (e23 : h' 23 = h 23) (k : Nat) : wd h' k = wd h k := by
  unfold wd tw
  rw [e6, e7, e8, e9, e21, e22, e23]
theorem mL_s (h : HP) (n : Nat) : (idle h n ∧ mL h (n + 1) = mL h n) ∨ (¬ idle h n ∧ mL h (n + 1) = mL h n ++ [n]) := by
  by_cases e : idle h n
  · exact Or.inl ⟨e, by simp only [mL, if_pos e]⟩
  · exact Or.inr ⟨e, by simp only [mL, if_neg e]⟩
set_option maxRecDepth 100000 in
set_option maxHeartbeats 4000000 in
theorem l_Read_collectMeant (h0 : HP) (hw : CW h0) (hn : CN h0) (hl : CL0 h0) : ∀ (d : Nat) (k : Int) (h : HP) (x2 : Option AV), h0 19 5 - k < d → 0 ≤ k → k ≤ h0 19 5 → rdF h0 h → mArr h0 h k.toNat → Wn Z4 mRead_collectMeant SH0 7 [some (.inr (.inr 24)), some (.inl k), x2] [] h (rtV (fun h' => rdF h0 h' ∧ mArr h0 h' (h0 19 5).toNat)) := by
  intro d
  induction d with
  | zero => intro k h x2 h1 h2 h3; omega
  | succ d ih =>
    intro k h x2 h1 h2 h3 h4 h5
    have f19 : h 19 = h0 19 := h4.1 19 (by decide) (by decide) (by decide)
    have f10 : h 10 = h0 10 := h4.1 10 (by decide) (by decide) (by decide)
    have ff : ∀ a, a < 24 → h a = h0 a := fun a ha => h4.1 a (by omega) (by omega) (by omega)
    have hlen := mL_len h0 k.toNat
    have h10 := hl.2.2.2.1.2.1
    have h6 := h5.1
    refine go [7] 400 (k := ?_)
    simp (config := {maxSteps := 1000000}) only [↓pI_c, ↓pR_c, ↓pJ_c, ↓pV_c, ↓popN_0, ↓popN_s, ↓lI_0, ↓lR_0, ↓lJ_0, ↓lI_s, ↓lR_s, ↓lJ_s, ↓okSt_0, ↓okSt_I, ↓okSt_R, ↓okSt_N, ↓okSt_s, ↓rtI_s, ↓rtV_n, ↓brP_t, ↓brP_f, ↓sRead_collectMeant_0, ↓sRead_collectMeant_1, ↓sRead_collectMeant_2, ↓rf_24_6, ↓sRead_collectMeant_5, ↓sRead_collectMeant_6, ↓sRead_collectMeant_7, ↓sRead_collectMeant_8, ↓sRead_collectMeant_9, ↓rf_24_0, ↓sRead_collectMeant_12, ↓rf_19_5, ↓sRead_collectMeant_15, ↓sRead_collectMeant_18, ↓sRead_collectMeant_19, ↓sRead_collectMeant_20, ↓sRead_collectMeant_23, ↓sRead_collectMeant_24, ↓sRead_collectMeant_25, ↓rf_24_2, ↓sRead_collectMeant_28, ↓sRead_collectMeant_29, ↓sRead_collectMeant_30, ↓sRead_collectMeant_33, ↓sRead_collectMeant_36, ↓sRead_collectMeant_37, ↓rf_24_4, ↓sRead_collectMeant_40, ↓sRead_collectMeant_41, ↓sRead_collectMeant_44, ↓sRead_collectMeant_45, ↓sRead_collectMeant_46, ↓sRead_collectMeant_47, ↓rf_24_5, ↓sRead_collectMeant_50, ↓sRead_collectMeant_51, ↓sRead_collectMeant_54, ↓sRead_collectMeant_55, ↓sRead_collectMeant_56, ↓sRead_collectMeant_57, ↓sRead_collectMeant_58, ↓sRead_collectMeant_61, ↓sRead_collectMeant_62, ↓sRead_collectMeant_63, ↓sRead_collectMeant_66, ↓sRead_collectMeant_69, ↓sRead_collectMeant_72, ↓ln_25, ↓ln_26, List.set_cons_zero, List.set_cons_succ, List.length_cons, List.length_nil, List.contains_cons, List.contains_nil, cat1, brP_d, true_and, and_true, not_false_eq_true, not_true_eq_false, if_true, if_false, Bool.or_false, Bool.false_or, Bool.or_true, Bool.true_or, Bool.false_eq_true, Bool.or_self, false_implies, true_implies, forall_const, and_self, implies_true, true_or, or_true, or_false, false_or, or_self, Classical.not_not, Int.reduceAdd, Int.reduceSub, Int.reduceMul, Int.reduceNeg, Int.reduceToNat, Int.reduceLT, Int.reduceLE, Int.reduceEq, Int.reduceNe, Int.reduceNatCast', Nat.reduceAdd, Nat.reduceSub, Nat.reduceLeDiff, Nat.reduceLT, Nat.reduceEqDiff, Nat.reduceBEq, reduceIte, nx_w, nx_c, up_n, up_s, up_f, ne_eq, Nat.reduceEqDiff, Option.some.injEq, Prod.mk.injEq, exists_eq_left', reduceCtorEq, ob_24, ob_10, f19]
    refine ⟨fun h7 => by rw [show k = h0 19 5 by omega] at h5; exact ⟨h4, h5⟩, fun h7 => ?_⟩
    refine use_p (t_Read_wordOfTyped h k (CN_congr (ff 6 (by decide)) (ff 7 (by decide)) (ff 8 (by decide)) (ff 9 (by decide)) (ff 10 (by decide)) hn) (CL0_congr (ff 6 (by decide)) (ff 7 (by decide)) (ff 8 (by decide)) (ff 19 (by decide)) (ff 20 (by decide)) (ff 21 (by decide)) (ff 22 (by decide)) (ff 23 (by decide)) hl) (by rw [f19]; omega)) ?_
    rw [wd_congr (ff 6 (by decide)) (ff 7 (by decide)) (ff 8 (by decide)) (ff 9 (by decide)) (ff 21 (by decide)) (ff 22 (by decide)) (ff 23 (by decide))]
    refine use_p (t_Words_isOf h _ 3 (by rw [f10]; exact hw.2.1)) ?_
    have hid : idle h0 k.toNat ↔ (0 ≤ wd h0 k.toNat ∧ wd h0 k.toNat < h 10 4 ∧ h 11 (wd h0 k.toNat).toNat = 3) := by
      unfold idle isK
      rw [f10, ff 11 (by decide)]
    rw [wr_id (x := k + 1) (by omega) (by omega)]
    have ek : (k + 1).toNat = k.toNat + 1 := by omega
    rcases mL_s h0 k.toNat with ⟨e1, e2⟩ | ⟨e1, e2⟩
    · rw [hid] at e1
      simp only [b2, if_pos e1, show ¬ (1 : Int) = 0 by decide, not_false_eq_true, true_implies, false_implies, and_true, not_true_eq_false]
      refine ih (k + 1) h _ (by omega) (by omega) (by omega) h4 ?_
      rw [ek]
      unfold mArr
      rw [e2]
      exact h5
    · rw [hid] at e1
      simp only [b2, if_neg e1, not_true_eq_false, false_implies, true_implies, true_and]
      rw [h6, wr_id (x := ((mL h0 k.toNat).length : Int) + 1) (by omega) (by omega)]
      refine ⟨by omega, by omega, ih (k + 1) _ _ (by omega) (by omega) (by omega) ⟨fun a a1 a2 a3 => by rw [up_ne a1, up_ne a3, up_ne a2]; exact h4.1 a a1 a2 a3, fun b hb => by rw [up_f (by omega), up_n (by decide), up_n (by decide)]; exact h4.2 b hb⟩ ?_⟩
      rw [ek]
      unfold mArr
      rw [e2, up_s]
      refine ⟨by simp, fun i hi => ?_⟩
      have el : ((mL h0 k.toNat).length : Int).toNat = (mL h0 k.toNat).length := by omega
      have t25 : ∀ x y, up (up (up h 25 ((mL h0 k.toNat).length : Int).toNat k) 26 ((mL h0 k.toNat).length : Int).toNat x) 24 6 y 25 i = if i = (mL h0 k.toNat).length then k else h 25 i := fun x y => by rw [up_n (by decide), up_n (by decide), up_a, el]
      have t26 : ∀ x y, up (up (up h 25 ((mL h0 k.toNat).length : Int).toNat k) 26 ((mL h0 k.toNat).length : Int).toNat x) 24 6 y 26 i = if i = (mL h0 k.toNat).length then x else h 26 i := fun x y => by rw [up_n (by decide), up_a, up_n (by decide), el]
      rw [t25, t26]
      simp only [List.length_append, List.length_cons, List.length_nil] at hi
      by_cases e : i = (mL h0 k.toNat).length
      · subst e
        rw [if_pos rfl, if_pos rfl]
        simp only [List.getD_eq_getElem?_getD, List.getElem?_append_right (Nat.le_refl _), Nat.sub_self, List.getElem?_cons_zero, Option.getD_some]
        exact ⟨by omega, trivial⟩
      · have hlt : i < (mL h0 k.toNat).length := by omega
        rw [if_neg e, if_neg e]
        simp only [List.getD_eq_getElem?_getD, List.getElem?_append_left hlt]
        have := h5.2 i hlt
        simp only [List.getD_eq_getElem?_getD] at this
        exact this
set_option maxRecDepth 100000 in
set_option maxHeartbeats 4000000 in
theorem t_Read_collectMeant (h : HP) (hw : CW h) (hn : CN h) (hl : CL0 h) : trV mRead_collectMeant [.inr (.inr 24)] SH0 h (fun h' => rdF h h' ∧ mArr h h' (h 19 5).toNat) := by
  refine startV [some (.inr (.inr 24)), none, none] mRead_collectMeant_c (go [7] 400 (k := ?_))
  simp (config := {maxSteps := 1000000}) only [↓pI_c, ↓pR_c, ↓pJ_c, ↓pV_c, ↓popN_0, ↓popN_s, ↓lI_0, ↓lR_0, ↓lJ_0, ↓lI_s, ↓lR_s, ↓lJ_s, ↓okSt_0, ↓okSt_I, ↓okSt_R, ↓okSt_N, ↓okSt_s, ↓rtI_s, ↓rtV_n, ↓brP_t, ↓brP_f, ↓sRead_collectMeant_0, ↓sRead_collectMeant_1, ↓sRead_collectMeant_2, ↓rf_24_6, ↓sRead_collectMeant_5, ↓sRead_collectMeant_6, ↓sRead_collectMeant_7, ↓sRead_collectMeant_8, ↓sRead_collectMeant_9, ↓rf_24_0, ↓sRead_collectMeant_12, ↓rf_19_5, ↓sRead_collectMeant_15, ↓sRead_collectMeant_18, ↓sRead_collectMeant_19, ↓sRead_collectMeant_20, ↓sRead_collectMeant_23, ↓sRead_collectMeant_24, ↓sRead_collectMeant_25, ↓rf_24_2, ↓sRead_collectMeant_28, ↓sRead_collectMeant_29, ↓sRead_collectMeant_30, ↓sRead_collectMeant_33, ↓sRead_collectMeant_36, ↓sRead_collectMeant_37, ↓rf_24_4, ↓sRead_collectMeant_40, ↓sRead_collectMeant_41, ↓sRead_collectMeant_44, ↓sRead_collectMeant_45, ↓sRead_collectMeant_46, ↓sRead_collectMeant_47, ↓rf_24_5, ↓sRead_collectMeant_50, ↓sRead_collectMeant_51, ↓sRead_collectMeant_54, ↓sRead_collectMeant_55, ↓sRead_collectMeant_56, ↓sRead_collectMeant_57, ↓sRead_collectMeant_58, ↓sRead_collectMeant_61, ↓sRead_collectMeant_62, ↓sRead_collectMeant_63, ↓sRead_collectMeant_66, ↓sRead_collectMeant_69, ↓sRead_collectMeant_72, ↓ln_25, ↓ln_26, List.set_cons_zero, List.set_cons_succ, List.length_cons, List.length_nil, List.contains_cons, List.contains_nil, cat1, brP_d, true_and, and_true, not_false_eq_true, not_true_eq_false, if_true, if_false, Bool.or_false, Bool.false_or, Bool.or_true, Bool.true_or, Bool.false_eq_true, Bool.or_self, false_implies, true_implies, forall_const, and_self, implies_true, true_or, or_true, or_false, false_or, or_self, Classical.not_not, Int.reduceAdd, Int.reduceSub, Int.reduceMul, Int.reduceNeg, Int.reduceToNat, Int.reduceLT, Int.reduceLE, Int.reduceEq, Int.reduceNe, Int.reduceNatCast', Nat.reduceAdd, Nat.reduceSub, Nat.reduceLeDiff, Nat.reduceLT, Nat.reduceEqDiff, Nat.reduceBEq, reduceIte, nx_w, nx_c, up_n, up_s, up_f, ne_eq, Nat.reduceEqDiff, Option.some.injEq, Prod.mk.injEq, exists_eq_left', reduceCtorEq, ob_24, ob_10]
  exact l_Read_collectMeant h hw hn hl ((h 19 5).toNat + 1) 0 (up h 24 6 0) _ (by have := hl.2.2.2.1.1; omega) (by omega) hl.2.2.2.1.1 ⟨fun a a1 a2 a3 => up_ne a1, fun b hb => up_f (by omega)⟩ ⟨by rw [up_s]; rfl, fun i hi => absurd hi (Nat.not_lt_zero i)⟩
-- unknown, hidden
def unkP (h : HP) (n : Int) (r : Int) (h' : HP) : Prop := r = cntE (h 26) (-1) n.toNat ∧ (∀ a, a ≠ 24 → h' a = h a) ∧ (∀ b, b ≠ 9 → h' 24 b = h 24 b) ∧ (0 < r → ∃ p : Nat, (p : Int) < n ∧ h' 24 9 = p ∧ h 26 p = -1 ∧ ∀ j : Nat, j < p → ¬ h 26 j = -1)
set_option maxRecDepth 100000 in
set_option maxHeartbeats 4000000 in
theorem l_Read_findUnknown (h0 : HP) (hn : 0 ≤ h0 24 6 ∧ h0 24 6 ≤ 10) : ∀ (d : Nat) (m c : Int) (h : HP), m + 1 < d → -1 ≤ m → m < h0 24 6 → c + cntE (h0 26) (-1) (m + 1).toNat = cntE (h0 26) (-1) (h0 24 6).toNat → 0 ≤ c → c ≤ 10 → (∀ a, a ≠ 24 → h a = h0 a) → (∀ b, b ≠ 9 → h 24 b = h0 24 b) → (0 < c → ∃ p : Nat, (p : Int) < h0 24 6 ∧ h 24 9 = p ∧ h0 26 p = -1 ∧ m < p ∧ ∀ j : Nat, m < j → j < p → ¬ h0 26 j = -1) → (c = 0 → ∀ j : Nat, m < j → (j : Int) < h0 24 6 → ¬ h0 26 j = -1) → Wn Z4 mRead_findUnknown SH0 9 [some (.inr (.inr 24)), some (.inl c), some (.inl m)] [] h (rtI (unkP h0 (h0 24 6))) := by
  intro d
  induction d with
  | zero => intro m c h h1 h2; omega
  | succ d ih =>
    intro m c h h1 h2 h3 h4 h5 h5' h6 h7 h8 h9
    have f26 : h 26 = h0 26 := h6 26 (by decide)
    refine go [9] 400 (k := ?_)
    simp (config := {maxSteps := 1000000}) only [↓pI_c, ↓pR_c, ↓pJ_c, ↓pV_c, ↓popN_0, ↓popN_s, ↓lI_0, ↓lR_0, ↓lJ_0, ↓lI_s, ↓lR_s, ↓lJ_s, ↓okSt_0, ↓okSt_I, ↓okSt_R, ↓okSt_N, ↓okSt_s, ↓rtI_s, ↓rtV_n, ↓brP_t, ↓brP_f, ↓sRead_findUnknown_0, ↓sRead_findUnknown_1, ↓sRead_findUnknown_2, ↓sRead_findUnknown_3, ↓rf_24_6, ↓sRead_findUnknown_6, ↓sRead_findUnknown_7, ↓sRead_findUnknown_8, ↓sRead_findUnknown_9, ↓sRead_findUnknown_10, ↓sRead_findUnknown_13, ↓sRead_findUnknown_14, ↓rf_24_5, ↓sRead_findUnknown_17, ↓sRead_findUnknown_18, ↓sRead_findUnknown_19, ↓sRead_findUnknown_20, ↓sRead_findUnknown_23, ↓sRead_findUnknown_24, ↓sRead_findUnknown_25, ↓rf_24_9, ↓sRead_findUnknown_28, ↓sRead_findUnknown_31, ↓sRead_findUnknown_34, ↓sRead_findUnknown_37, ↓sRead_findUnknown_38, ↓ln_26, List.set_cons_zero, List.set_cons_succ, List.length_cons, List.length_nil, List.contains_cons, List.contains_nil, cat1, brP_d, true_and, and_true, not_false_eq_true, not_true_eq_false, if_true, if_false, Bool.or_false, Bool.false_or, Bool.or_true, Bool.true_or, Bool.false_eq_true, Bool.or_self, false_implies, true_implies, forall_const, and_self, implies_true, true_or, or_true, or_false, false_or, or_self, Classical.not_not, Int.reduceAdd, Int.reduceSub, Int.reduceMul, Int.reduceNeg, Int.reduceToNat, Int.reduceLT, Int.reduceLE, Int.reduceEq, Int.reduceNe, Int.reduceNatCast', Nat.reduceAdd, Nat.reduceSub, Nat.reduceLeDiff, Nat.reduceLT, Nat.reduceEqDiff, Nat.reduceBEq, reduceIte, nx_w, nx_c, up_n, up_s, up_f, ne_eq, Nat.reduceEqDiff, Option.some.injEq, Prod.mk.injEq, exists_eq_left', reduceCtorEq, f26]
    refine ⟨fun h10 => ?_, fun h10 => ?_⟩
    · have e : m = -1 := by omega
      subst e
      refine ⟨?_, h6, h7, fun hc => ?_⟩
      · rw [← h4]; simp [cntE]
      · obtain ⟨p, q1, q2, q3, q4, q5⟩ := h8 hc
        exact ⟨p, q1, q2, q3, fun j hj => q5 j (by omega) hj⟩
    · have hs : cntE (h0 26) (-1) (m + 1).toNat = cntE (h0 26) (-1) m.toNat + (if h0 26 m.toNat = -1 then 1 else 0) := by
        rw [show (m + 1).toNat = m.toNat + 1 by omega]
        rfl
      have hle := cntE_le (h0 26) (-1) m.toNat
      have hle2 := cntE_le (h0 26) (-1) (h0 24 6).toNat
      rw [wr_id (x := m + -1) (by omega) (by omega)]
      have em : (m + -1 + 1).toNat = m.toNat := by omega
      refine ⟨by omega, fun h11 => ?_, fun h11 => ?_⟩
      · rw [if_neg h11] at hs
        refine ih (m + -1) c h (by omega) (by omega) (by omega) (by rw [em]; omega) h5 h5' h6 h7 (fun hc => ?_) (fun hc j j1 j2 => ?_)
        · obtain ⟨p, q1, q2, q3, q4, q5⟩ := h8 hc
          refine ⟨p, q1, q2, q3, by omega, fun j j1 j2 => ?_⟩
          by_cases e : (j : Int) = m
          · rw [show j = m.toNat by omega]; exact h11
          · exact q5 j (by omega) j2
        · by_cases e : (j : Int) = m
          · rw [show j = m.toNat by omega]; exact h11
          · exact h9 hc j (by omega) j2
      · rw [if_pos h11] at hs
        rw [wr_id (x := c + 1) (by omega) (by omega)]
        refine ih (m + -1) (c + 1) _ (by omega) (by omega) (by omega) (by rw [em]; omega) (by omega) (by omega) (fun a ha => by rw [up_ne ha]; exact h6 a ha) (fun b hb => by rw [up_f hb]; exact h7 b hb) (fun _ => ⟨m.toNat, by omega, by rw [up_s]; omega, h11, by omega, fun j j1 j2 => by omega⟩) (fun hc => by omega)
set_option maxRecDepth 100000 in
set_option maxHeartbeats 4000000 in
theorem t_Read_findUnknown (h : HP) (hn : 0 ≤ h 24 6 ∧ h 24 6 ≤ 10) : trI mRead_findUnknown [.inr (.inr 24)] SH0 h (unkP h (h 24 6)) := by
  refine startI [some (.inr (.inr 24)), none, none] mRead_findUnknown_c (go [9] 400 (k := ?_))
  simp (config := {maxSteps := 1000000}) only [↓pI_c, ↓pR_c, ↓pJ_c, ↓pV_c, ↓popN_0, ↓popN_s, ↓lI_0, ↓lR_0, ↓lJ_0, ↓lI_s, ↓lR_s, ↓lJ_s, ↓okSt_0, ↓okSt_I, ↓okSt_R, ↓okSt_N, ↓okSt_s, ↓rtI_s, ↓rtV_n, ↓brP_t, ↓brP_f, ↓sRead_findUnknown_0, ↓sRead_findUnknown_1, ↓sRead_findUnknown_2, ↓sRead_findUnknown_3, ↓rf_24_6, ↓sRead_findUnknown_6, ↓sRead_findUnknown_7, ↓sRead_findUnknown_8, ↓sRead_findUnknown_9, ↓sRead_findUnknown_10, ↓sRead_findUnknown_13, ↓sRead_findUnknown_14, ↓rf_24_5, ↓sRead_findUnknown_17, ↓sRead_findUnknown_18, ↓sRead_findUnknown_19, ↓sRead_findUnknown_20, ↓sRead_findUnknown_23, ↓sRead_findUnknown_24, ↓sRead_findUnknown_25, ↓rf_24_9, ↓sRead_findUnknown_28, ↓sRead_findUnknown_31, ↓sRead_findUnknown_34, ↓sRead_findUnknown_37, ↓sRead_findUnknown_38, ↓ln_26, List.set_cons_zero, List.set_cons_succ, List.length_cons, List.length_nil, List.contains_cons, List.contains_nil, cat1, brP_d, true_and, and_true, not_false_eq_true, not_true_eq_false, if_true, if_false, Bool.or_false, Bool.false_or, Bool.or_true, Bool.true_or, Bool.false_eq_true, Bool.or_self, false_implies, true_implies, forall_const, and_self, implies_true, true_or, or_true, or_false, false_or, or_self, Classical.not_not, Int.reduceAdd, Int.reduceSub, Int.reduceMul, Int.reduceNeg, Int.reduceToNat, Int.reduceLT, Int.reduceLE, Int.reduceEq, Int.reduceNe, Int.reduceNatCast', Nat.reduceAdd, Nat.reduceSub, Nat.reduceLeDiff, Nat.reduceLT, Nat.reduceEqDiff, Nat.reduceBEq, reduceIte, nx_w, nx_c, up_n, up_s, up_f, ne_eq, Nat.reduceEqDiff, Option.some.injEq, Prod.mk.injEq, exists_eq_left', reduceCtorEq]
  rw [wr_id (x := h 24 6 - 1) (by omega) (by omega)]
  exact l_Read_findUnknown h hn ((h 24 6).toNat + 1) (h 24 6 - 1) 0 h (by omega) (by omega) (by omega) (by rw [show h 24 6 - 1 + 1 = h 24 6 by omega]; omega) (by omega) (by omega) (fun _ _ => rfl) (fun _ _ => rfl) (fun hc => by omega) (fun _ j j1 j2 => by omega)
def hidF (h : HP) (n r : Int) : Prop := (r = -1 ∧ ∀ m : Nat, (m : Int) < n → ¬ h 13 (h 26 m).toNat = 0) ∨ ∃ p : Nat, (p : Int) < n ∧ r = p ∧ h 13 (h 26 p).toNat = 0 ∧ ∀ j : Nat, j < p → ¬ h 13 (h 26 j).toNat = 0
set_option maxRecDepth 100000 in
set_option maxHeartbeats 4000000 in
theorem l_Read_findHidden (h : HP) (hn : 0 ≤ h 24 6 ∧ h 24 6 ≤ 10) (hw : ∀ m : Nat, (m : Int) < h 24 6 → 0 ≤ h 26 m ∧ h 26 m < 60) : ∀ (d : Nat) (i : Int), h 24 6 - i < d → 0 ≤ i → i ≤ h 24 6 → (∀ m : Nat, (m : Int) < i → ¬ h 13 (h 26 m).toNat = 0) → Wn Z4 mRead_findHidden SH0 2 [some (.inr (.inr 24)), some (.inl i)] [] h (rtI (fun r h' => h' = h ∧ hidF h (h 24 6) r)) := by
  intro d
  induction d with
  | zero => intro i h1 h2 h3; omega
  | succ d ih =>
    intro i h1 h2 h3 h4
    refine go [2] 400 (k := ?_)
    simp (config := {maxSteps := 1000000}) only [↓pI_c, ↓pR_c, ↓pJ_c, ↓pV_c, ↓popN_0, ↓popN_s, ↓lI_0, ↓lR_0, ↓lJ_0, ↓lI_s, ↓lR_s, ↓lJ_s, ↓okSt_0, ↓okSt_I, ↓okSt_R, ↓okSt_N, ↓okSt_s, ↓rtI_s, ↓rtV_n, ↓brP_t, ↓brP_f, ↓sRead_findHidden_0, ↓sRead_findHidden_1, ↓sRead_findHidden_2, ↓sRead_findHidden_3, ↓sRead_findHidden_4, ↓rf_24_6, ↓sRead_findHidden_7, ↓sRead_findHidden_10, ↓sRead_findHidden_11, ↓rf_24_2, ↓sRead_findHidden_14, ↓rf_10_2, ↓sRead_findHidden_17, ↓sRead_findHidden_18, ↓rf_24_5, ↓sRead_findHidden_21, ↓sRead_findHidden_22, ↓sRead_findHidden_23, ↓sRead_findHidden_24, ↓sRead_findHidden_27, ↓sRead_findHidden_28, ↓sRead_findHidden_29, ↓sRead_findHidden_32, ↓sRead_findHidden_35, ↓sRead_findHidden_36, ↓ln_13, ↓ln_26, List.set_cons_zero, List.set_cons_succ, List.length_cons, List.length_nil, List.contains_cons, List.contains_nil, cat1, brP_d, true_and, and_true, not_false_eq_true, not_true_eq_false, if_true, if_false, Bool.or_false, Bool.false_or, Bool.or_true, Bool.true_or, Bool.false_eq_true, Bool.or_self, false_implies, true_implies, forall_const, and_self, implies_true, true_or, or_true, or_false, false_or, or_self, Classical.not_not, Int.reduceAdd, Int.reduceSub, Int.reduceMul, Int.reduceNeg, Int.reduceToNat, Int.reduceLT, Int.reduceLE, Int.reduceEq, Int.reduceNe, Int.reduceNatCast', Nat.reduceAdd, Nat.reduceSub, Nat.reduceLeDiff, Nat.reduceLT, Nat.reduceEqDiff, Nat.reduceBEq, reduceIte, nx_w, nx_c, up_n, up_s, up_f, ne_eq, Nat.reduceEqDiff, Option.some.injEq, Prod.mk.injEq, exists_eq_left', reduceCtorEq]
    refine ⟨fun h5 => Or.inl ⟨rfl, fun m hm => h4 m (by omega)⟩, fun h5 => ⟨by omega, hw i.toNat (by omega), fun h6 => ?_, fun h6 => ?_⟩⟩
    · rw [wr_id (x := i + 1) (by omega) (by omega)]
      refine ih (i + 1) (by omega) (by omega) (by omega) (fun m hm => ?_)
      by_cases e : (m : Int) = i
      · rw [show m = i.toNat by omega]; exact h6
      · exact h4 m (by omega)
    · exact Or.inr ⟨i.toNat, by omega, by omega, h6, fun j hj => h4 j (by omega)⟩
set_option maxRecDepth 100000 in
set_option maxHeartbeats 4000000 in
theorem t_Read_findHidden (h : HP) (hn : 0 ≤ h 24 6 ∧ h 24 6 ≤ 10) (hw : ∀ m : Nat, (m : Int) < h 24 6 → 0 ≤ h 26 m ∧ h 26 m < 60) : trI mRead_findHidden [.inr (.inr 24)] SH0 h (fun r h' => h' = h ∧ hidF h (h 24 6) r) := by
  refine startI [some (.inr (.inr 24)), none] mRead_findHidden_c (go [2] 400 (k := ?_))
  simp (config := {maxSteps := 1000000}) only [↓pI_c, ↓pR_c, ↓pJ_c, ↓pV_c, ↓popN_0, ↓popN_s, ↓lI_0, ↓lR_0, ↓lJ_0, ↓lI_s, ↓lR_s, ↓lJ_s, ↓okSt_0, ↓okSt_I, ↓okSt_R, ↓okSt_N, ↓okSt_s, ↓rtI_s, ↓rtV_n, ↓brP_t, ↓brP_f, ↓sRead_findHidden_0, ↓sRead_findHidden_1, ↓sRead_findHidden_2, ↓sRead_findHidden_3, ↓sRead_findHidden_4, ↓rf_24_6, ↓sRead_findHidden_7, ↓sRead_findHidden_10, ↓sRead_findHidden_11, ↓rf_24_2, ↓sRead_findHidden_14, ↓rf_10_2, ↓sRead_findHidden_17, ↓sRead_findHidden_18, ↓rf_24_5, ↓sRead_findHidden_21, ↓sRead_findHidden_22, ↓sRead_findHidden_23, ↓sRead_findHidden_24, ↓sRead_findHidden_27, ↓sRead_findHidden_28, ↓sRead_findHidden_29, ↓sRead_findHidden_32, ↓sRead_findHidden_35, ↓sRead_findHidden_36, ↓ln_13, ↓ln_26, List.set_cons_zero, List.set_cons_succ, List.length_cons, List.length_nil, List.contains_cons, List.contains_nil, cat1, brP_d, true_and, and_true, not_false_eq_true, not_true_eq_false, if_true, if_false, Bool.or_false, Bool.false_or, Bool.or_true, Bool.true_or, Bool.false_eq_true, Bool.or_self, false_implies, true_implies, forall_const, and_self, implies_true, true_or, or_true, or_false, false_or, or_self, Classical.not_not, Int.reduceAdd, Int.reduceSub, Int.reduceMul, Int.reduceNeg, Int.reduceToNat, Int.reduceLT, Int.reduceLE, Int.reduceEq, Int.reduceNe, Int.reduceNatCast', Nat.reduceAdd, Nat.reduceSub, Nat.reduceLeDiff, Nat.reduceLT, Nat.reduceEqDiff, Nat.reduceBEq, reduceIte, nx_w, nx_c, up_n, up_s, up_f, ne_eq, Nat.reduceEqDiff, Option.some.injEq, Prod.mk.injEq, exists_eq_left', reduceCtorEq]
  exact l_Read_findHidden h hn hw ((h 24 6).toNat + 1) 0 (by omega) (by omega) hn.1 (fun m hm => by omega)
-- rules
def begP (h : HP) (wf : Nat → Int) (n : Int) (r : Nat) : Prop := h 16 r = wf 0 ∧ n - 1 ≤ h 17 r ∧ ∀ t : Nat, (t : Int) < n - 1 → asP h (wf (t + 1)) (h 18 (4 * r + t))
set_option maxRecDepth 100000 in
set_option maxHeartbeats 4000000 in
theorem l_Read_beginsAs (h : HP) (r : Int) (hW : CW h) (hr : 0 ≤ r ∧ r < h 15 3) (hR : CR h) (hn : 0 ≤ h 24 6 ∧ h 24 6 ≤ 10) (h1 : h 16 r.toNat = h 26 0) (h2 : h 24 6 - 1 ≤ h 17 r.toNat) : ∀ (d : Nat) (t : Int), h 24 6 - t < d → 0 ≤ t → (t ≤ h 24 6) → (∀ j : Nat, (j : Int) < t → asP h (h 26 (j + 1)) (h 18 (4 * r.toNat + j))) → Wn Z4 mRead_beginsAs SH0 40 [some (.inr (.inr 24)), some (.inl r), some (.inl t)] [] h (rtI (fun x h' => h' = h ∧ bP (begP h (h 26) (h 24 6) r.toNat) x)) := by
  have hl4 := hR.2.2.2 r.toNat (by have := hR.2.1; omega)
  intro d
  induction d with
  | zero => intro i h1 h2 h3; omega
  | succ d ih =>
    intro t q1 q2 q3 q4
    refine go [40] 400 (k := ?_)
    simp (config := {maxSteps := 1000000}) only [↓pI_c, ↓pR_c, ↓pJ_c, ↓pV_c, ↓popN_0, ↓popN_s, ↓lI_0, ↓lR_0, ↓lJ_0, ↓lI_s, ↓lR_s, ↓lJ_s, ↓okSt_0, ↓okSt_I, ↓okSt_R, ↓okSt_N, ↓okSt_s, ↓rtI_s, ↓rtV_n, ↓brP_t, ↓brP_f, ↓sRead_beginsAs_0, ↓sRead_beginsAs_1, ↓rf_24_3, ↓sRead_beginsAs_4, ↓rf_15_0, ↓sRead_beginsAs_7, ↓sRead_beginsAs_8, ↓sRead_beginsAs_9, ↓sRead_beginsAs_10, ↓rf_24_5, ↓sRead_beginsAs_13, ↓sRead_beginsAs_14, ↓sRead_beginsAs_15, ↓sRead_beginsAs_18, ↓sRead_beginsAs_19, ↓sRead_beginsAs_22, ↓rf_15_1, ↓sRead_beginsAs_25, ↓sRead_beginsAs_26, ↓sRead_beginsAs_27, ↓sRead_beginsAs_28, ↓rf_24_6, ↓sRead_beginsAs_31, ↓sRead_beginsAs_32, ↓sRead_beginsAs_33, ↓sRead_beginsAs_36, ↓sRead_beginsAs_37, ↓sRead_beginsAs_38, ↓sRead_beginsAs_39, ↓sRead_beginsAs_40, ↓sRead_beginsAs_41, ↓sRead_beginsAs_42, ↓sRead_beginsAs_45, ↓sRead_beginsAs_46, ↓sRead_beginsAs_47, ↓sRead_beginsAs_50, ↓sRead_beginsAs_51, ↓rf_24_2, ↓sRead_beginsAs_54, ↓sRead_beginsAs_55, ↓sRead_beginsAs_58, ↓sRead_beginsAs_59, ↓sRead_beginsAs_60, ↓sRead_beginsAs_61, ↓sRead_beginsAs_62, ↓sRead_beginsAs_63, ↓sRead_beginsAs_66, ↓sRead_beginsAs_67, ↓sRead_beginsAs_68, ↓sRead_beginsAs_71, ↓sRead_beginsAs_74, ↓sRead_beginsAs_77, ↓sRead_beginsAs_78, ↓sRead_beginsAs_79, ↓sRead_beginsAs_82, ↓sRead_beginsAs_85, ↓sRead_beginsAs_86, ↓ln_16, ↓ln_17, ↓ln_26, List.set_cons_zero, List.set_cons_succ, List.length_cons, List.length_nil, List.contains_cons, List.contains_nil, cat1, brP_d, true_and, and_true, not_false_eq_true, not_true_eq_false, if_true, if_false, Bool.or_false, Bool.false_or, Bool.or_true, Bool.true_or, Bool.false_eq_true, Bool.or_self, false_implies, true_implies, forall_const, and_self, implies_true, true_or, or_true, or_false, false_or, or_self, Classical.not_not, Int.reduceAdd, Int.reduceSub, Int.reduceMul, Int.reduceNeg, Int.reduceToNat, Int.reduceLT, Int.reduceLE, Int.reduceEq, Int.reduceNe, Int.reduceNatCast', Nat.reduceAdd, Nat.reduceSub, Nat.reduceLeDiff, Nat.reduceLT, Nat.reduceEqDiff, Nat.reduceBEq, reduceIte, nx_w, nx_c, up_n, up_s, up_f, ne_eq, Nat.reduceEqDiff, Option.some.injEq, Prod.mk.injEq, exists_eq_left', reduceCtorEq, ob_15, ob_10]
    rw [wr_id (x := h 24 6 - 1) (by omega) (by omega)]
    refine ⟨fun h5 => Or.inl ⟨rfl, h1, h2, fun j hj => q4 j (by omega)⟩, fun h5 => ?_⟩
    rw [wr_id (x := t + 1) (by omega) (by omega)]
    refine ⟨by omega, ?_⟩
    refine use_p (t_Rules_tokenAt h r t (by have := hR.2.1; omega) (by omega)) ?_
    refine use_q (t_Words_isAs h _ _ ⟨hW.1, hW.2.1⟩) ?_
    rw [show (t + 1).toNat = t.toNat + 1 by omega]
    rintro x (⟨rfl, hx⟩ | ⟨rfl, hx⟩)
    · simp only [show ¬ (1 : Int) = 0 by decide, not_false_eq_true, true_implies, false_implies, and_true, not_true_eq_false]
      refine ih (t + 1) (by omega) (by omega) (by omega) (fun j hj => ?_)
      by_cases e : (j : Int) = t
      · rw [show j = t.toNat by omega]; exact hx
      · exact q4 j (by omega)
    · simp only [not_true_eq_false, false_implies, true_implies, true_and]
      exact Or.inr ⟨rfl, fun z => hx (z.2.2 t.toNat (by omega))⟩
set_option maxRecDepth 100000 in
set_option maxHeartbeats 4000000 in
theorem t_Read_beginsAs (h : HP) (r : Int) (hW : CW h) (hr : 0 ≤ r ∧ r < h 15 3) (hR : CR h) (hn : 1 ≤ h 24 6 ∧ h 24 6 ≤ 10) : trI mRead_beginsAs [.inr (.inr 24), .inl r] SH0 h (fun x h' => h' = h ∧ bP (begP h (h 26) (h 24 6) r.toNat) x) := by
  have h40 := hR.2.1
  refine startI [some (.inr (.inr 24)), some (.inl r), none] mRead_beginsAs_c (go [40] 400 (k := ?_))
  simp (config := {maxSteps := 1000000}) only [↓pI_c, ↓pR_c, ↓pJ_c, ↓pV_c, ↓popN_0, ↓popN_s, ↓lI_0, ↓lR_0, ↓lJ_0, ↓lI_s, ↓lR_s, ↓lJ_s, ↓okSt_0, ↓okSt_I, ↓okSt_R, ↓okSt_N, ↓okSt_s, ↓rtI_s, ↓rtV_n, ↓brP_t, ↓brP_f, ↓sRead_beginsAs_0, ↓sRead_beginsAs_1, ↓rf_24_3, ↓sRead_beginsAs_4, ↓rf_15_0, ↓sRead_beginsAs_7, ↓sRead_beginsAs_8, ↓sRead_beginsAs_9, ↓sRead_beginsAs_10, ↓rf_24_5, ↓sRead_beginsAs_13, ↓sRead_beginsAs_14, ↓sRead_beginsAs_15, ↓sRead_beginsAs_18, ↓sRead_beginsAs_19, ↓sRead_beginsAs_22, ↓rf_15_1, ↓sRead_beginsAs_25, ↓sRead_beginsAs_26, ↓sRead_beginsAs_27, ↓sRead_beginsAs_28, ↓rf_24_6, ↓sRead_beginsAs_31, ↓sRead_beginsAs_32, ↓sRead_beginsAs_33, ↓sRead_beginsAs_36, ↓sRead_beginsAs_37, ↓sRead_beginsAs_38, ↓sRead_beginsAs_39, ↓sRead_beginsAs_40, ↓sRead_beginsAs_41, ↓sRead_beginsAs_42, ↓sRead_beginsAs_45, ↓sRead_beginsAs_46, ↓sRead_beginsAs_47, ↓sRead_beginsAs_50, ↓sRead_beginsAs_51, ↓rf_24_2, ↓sRead_beginsAs_54, ↓sRead_beginsAs_55, ↓sRead_beginsAs_58, ↓sRead_beginsAs_59, ↓sRead_beginsAs_60, ↓sRead_beginsAs_61, ↓sRead_beginsAs_62, ↓sRead_beginsAs_63, ↓sRead_beginsAs_66, ↓sRead_beginsAs_67, ↓sRead_beginsAs_68, ↓sRead_beginsAs_71, ↓sRead_beginsAs_74, ↓sRead_beginsAs_77, ↓sRead_beginsAs_78, ↓sRead_beginsAs_79, ↓sRead_beginsAs_82, ↓sRead_beginsAs_85, ↓sRead_beginsAs_86, ↓ln_16, ↓ln_17, ↓ln_26, List.set_cons_zero, List.set_cons_succ, List.length_cons, List.length_nil, List.contains_cons, List.contains_nil, cat1, brP_d, true_and, and_true, not_false_eq_true, not_true_eq_false, if_true, if_false, Bool.or_false, Bool.false_or, Bool.or_true, Bool.true_or, Bool.false_eq_true, Bool.or_self, false_implies, true_implies, forall_const, and_self, implies_true, true_or, or_true, or_false, false_or, or_self, Classical.not_not, Int.reduceAdd, Int.reduceSub, Int.reduceMul, Int.reduceNeg, Int.reduceToNat, Int.reduceLT, Int.reduceLE, Int.reduceEq, Int.reduceNe, Int.reduceNatCast', Nat.reduceAdd, Nat.reduceSub, Nat.reduceLeDiff, Nat.reduceLT, Nat.reduceEqDiff, Nat.reduceBEq, reduceIte, nx_w, nx_c, up_n, up_s, up_f, ne_eq, Nat.reduceEqDiff, Option.some.injEq, Prod.mk.injEq, exists_eq_left', reduceCtorEq, ob_15, ob_10]
  rw [wr_id (x := h 24 6 - 1) (by omega) (by omega)]
  refine ⟨by omega, fun h1 => Or.inr ⟨rfl, fun z => h1 z.1⟩, fun h1 => ⟨by omega, fun h2 => ?_, fun h2 => Or.inr ⟨rfl, fun z => h2 z.2.1⟩⟩⟩
  exact l_Read_beginsAs h r hW hr hR ⟨by omega, hn.2⟩ h1 h2 ((h 24 6).toNat + 1) 0 (by omega) (by omega) (by omega) (fun j hj => by omega)
def fitR (h : HP) (wf : Nat → Int) (n : Int) (r : Nat) : Prop := h 17 r = n - 1 ∧ begP h wf n r
def fitF (h : HP) (wf : Nat → Int) (n x : Int) : Prop := (x = -1 ∧ ∀ r : Nat, (r : Int) < h 15 3 → ¬ fitR h wf n r) ∨ ∃ r : Nat, (r : Int) < h 15 3 ∧ x = r ∧ fitR h wf n r ∧ ∀ j : Nat, j < r → ¬ fitR h wf n j
set_option maxRecDepth 100000 in
set_option maxHeartbeats 4000000 in
theorem l_Read_findFitting (h : HP) (hW : CW h) (hR : CR h) (hn : 1 ≤ h 24 6 ∧ h 24 6 ≤ 10) : ∀ (d : Nat) (i : Int), h 15 3 - i < d → 0 ≤ i → i ≤ h 15 3 → (∀ m : Nat, (m : Int) < i → ¬ fitR h (h 26) (h 24 6) m) → Wn Z4 mRead_findFitting SH0 2 [some (.inr (.inr 24)), some (.inl i)] [] h (rtI (fun r h' => h' = h ∧ fitF h (h 26) (h 24 6) r)) := by
  have h40 := hR.2.1
  intro d
  induction d with
  | zero => intro i h1 h2 h3; omega
  | succ d ih =>
    intro i h1 h2 h3 h4
    have nxt : ¬ h 15 3 ≤ i → ¬ fitR h (h 26) (h 24 6) i.toNat → Wn Z4 mRead_findFitting SH0 2 [some (.inr (.inr 24)), some (.inl (wr (i + 1)))] [] h (rtI (fun r h' => h' = h ∧ fitF h (h 26) (h 24 6) r)) := by
      intro h5 h6
      rw [wr_id (x := i + 1) (by omega) (by omega)]
      refine ih (i + 1) (by omega) (by omega) (by omega) (fun m hm => ?_)
      by_cases e : (m : Int) = i
      · rw [show m = i.toNat by omega]; exact h6
      · exact h4 m (by omega)
    refine go [2] 400 (k := ?_)
    simp (config := {maxSteps := 1000000}) only [↓pI_c, ↓pR_c, ↓pJ_c, ↓pV_c, ↓popN_0, ↓popN_s, ↓lI_0, ↓lR_0, ↓lJ_0, ↓lI_s, ↓lR_s, ↓lJ_s, ↓okSt_0, ↓okSt_I, ↓okSt_R, ↓okSt_N, ↓okSt_s, ↓rtI_s, ↓rtV_n, ↓brP_t, ↓brP_f, ↓sRead_findFitting_0, ↓sRead_findFitting_1, ↓sRead_findFitting_2, ↓sRead_findFitting_3, ↓sRead_findFitting_4, ↓rf_24_3, ↓sRead_findFitting_7, ↓rf_15_3, ↓sRead_findFitting_10, ↓sRead_findFitting_13, ↓sRead_findFitting_14, ↓sRead_findFitting_17, ↓rf_15_1, ↓sRead_findFitting_20, ↓sRead_findFitting_21, ↓sRead_findFitting_22, ↓sRead_findFitting_23, ↓rf_24_6, ↓sRead_findFitting_26, ↓sRead_findFitting_27, ↓sRead_findFitting_28, ↓sRead_findFitting_31, ↓sRead_findFitting_32, ↓sRead_findFitting_33, ↓sRead_findFitting_36, ↓sRead_findFitting_39, ↓sRead_findFitting_40, ↓sRead_findFitting_41, ↓sRead_findFitting_44, ↓sRead_findFitting_47, ↓sRead_findFitting_48, ↓ln_17, List.set_cons_zero, List.set_cons_succ, List.length_cons, List.length_nil, List.contains_cons, List.contains_nil, cat1, brP_d, true_and, and_true, not_false_eq_true, not_true_eq_false, if_true, if_false, Bool.or_false, Bool.false_or, Bool.or_true, Bool.true_or, Bool.false_eq_true, Bool.or_self, false_implies, true_implies, forall_const, and_self, implies_true, true_or, or_true, or_false, false_or, or_self, Classical.not_not, Int.reduceAdd, Int.reduceSub, Int.reduceMul, Int.reduceNeg, Int.reduceToNat, Int.reduceLT, Int.reduceLE, Int.reduceEq, Int.reduceNe, Int.reduceNatCast', Nat.reduceAdd, Nat.reduceSub, Nat.reduceLeDiff, Nat.reduceLT, Nat.reduceEqDiff, Nat.reduceBEq, reduceIte, nx_w, nx_c, up_n, up_s, up_f, ne_eq, Nat.reduceEqDiff, Option.some.injEq, Prod.mk.injEq, exists_eq_left', reduceCtorEq, ob_24]
    refine ⟨fun h5 => Or.inl ⟨rfl, fun m hm => h4 m (by omega)⟩, fun h5 => ⟨by omega, ?_⟩⟩
    rw [wr_id (x := h 24 6 - 1) (by omega) (by omega)]
    refine ⟨fun h6 => nxt h5 (fun z => h6 z.1), fun h6 => ?_⟩
    refine use_q (t_Read_beginsAs h i hW (by omega) hR hn) ?_
    rintro x (⟨rfl, hx⟩ | ⟨rfl, hx⟩)
    · simp only [show ¬ (1 : Int) = 0 by decide, not_false_eq_true, true_implies, false_implies, true_and, not_true_eq_false]
      exact Or.inr ⟨i.toNat, by omega, by omega, ⟨h6, hx⟩, fun j hj => h4 j (by omega)⟩
    · simp only [not_true_eq_false, false_implies, true_implies, and_true]
      exact nxt h5 (fun z => hx z.2)
set_option maxRecDepth 100000 in
set_option maxHeartbeats 4000000 in
theorem t_Read_findFitting (h : HP) (hW : CW h) (hR : CR h) (hn : 1 ≤ h 24 6 ∧ h 24 6 ≤ 10) : trI mRead_findFitting [.inr (.inr 24)] SH0 h (fun r h' => h' = h ∧ fitF h (h 26) (h 24 6) r) := by
  refine startI [some (.inr (.inr 24)), none] mRead_findFitting_c (go [2] 400 (k := ?_))
  simp (config := {maxSteps := 1000000}) only [↓pI_c, ↓pR_c, ↓pJ_c, ↓pV_c, ↓popN_0, ↓popN_s, ↓lI_0, ↓lR_0, ↓lJ_0, ↓lI_s, ↓lR_s, ↓lJ_s, ↓okSt_0, ↓okSt_I, ↓okSt_R, ↓okSt_N, ↓okSt_s, ↓rtI_s, ↓rtV_n, ↓brP_t, ↓brP_f, ↓sRead_findFitting_0, ↓sRead_findFitting_1, ↓sRead_findFitting_2, ↓sRead_findFitting_3, ↓sRead_findFitting_4, ↓rf_24_3, ↓sRead_findFitting_7, ↓rf_15_3, ↓sRead_findFitting_10, ↓sRead_findFitting_13, ↓sRead_findFitting_14, ↓sRead_findFitting_17, ↓rf_15_1, ↓sRead_findFitting_20, ↓sRead_findFitting_21, ↓sRead_findFitting_22, ↓sRead_findFitting_23, ↓rf_24_6, ↓sRead_findFitting_26, ↓sRead_findFitting_27, ↓sRead_findFitting_28, ↓sRead_findFitting_31, ↓sRead_findFitting_32, ↓sRead_findFitting_33, ↓sRead_findFitting_36, ↓sRead_findFitting_39, ↓sRead_findFitting_40, ↓sRead_findFitting_41, ↓sRead_findFitting_44, ↓sRead_findFitting_47, ↓sRead_findFitting_48, ↓ln_17, List.set_cons_zero, List.set_cons_succ, List.length_cons, List.length_nil, List.contains_cons, List.contains_nil, cat1, brP_d, true_and, and_true, not_false_eq_true, not_true_eq_false, if_true, if_false, Bool.or_false, Bool.false_or, Bool.or_true, Bool.true_or, Bool.false_eq_true, Bool.or_self, false_implies, true_implies, forall_const, and_self, implies_true, true_or, or_true, or_false, false_or, or_self, Classical.not_not, Int.reduceAdd, Int.reduceSub, Int.reduceMul, Int.reduceNeg, Int.reduceToNat, Int.reduceLT, Int.reduceLE, Int.reduceEq, Int.reduceNe, Int.reduceNatCast', Nat.reduceAdd, Nat.reduceSub, Nat.reduceLeDiff, Nat.reduceLT, Nat.reduceEqDiff, Nat.reduceBEq, reduceIte, nx_w, nx_c, up_n, up_s, up_f, ne_eq, Nat.reduceEqDiff, Option.some.injEq, Prod.mk.injEq, exists_eq_left', reduceCtorEq, ob_24]
  exact l_Read_findFitting h hW hR hn ((h 15 3).toNat + 1) 0 (by have := hR.1; omega) (by omega) hR.1 (fun m hm => by omega)
