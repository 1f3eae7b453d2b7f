/-! learn: the class -/
def mvH (h : HP) (p t : Nat) : HP := up (up (up (cpy h 37 37 (12 * p) (12 * t) 12) 38 t (h 38 p)) 39 t (h 39 p)) 40 t (h 40 p)
set_option maxRecDepth 100000 in
set_option maxHeartbeats 4000000 in
theorem t_Log_move (h : HP) (p t : Nat) (hp : p < 40) (ht : t < 40) : trV mLog_move [.inr (.inr 36), .inl p, .inl t] SH0 h (fun h' => h' = mvH h p t) := by
  have e : ∀ a b, a ≠ 37 → cpy h 37 37 (12 * p) (12 * t) 12 a b = h a b := fun a b ha => by rw [cpy_ne ha]
  have ep : ((p : Int)).toNat = p := by omega
  have et : ((t : Int)).toNat = t := by omega
  refine startV [some (.inr (.inr 36)), some (.inl p), some (.inl t)] mLog_move_c (go [9999] 400 (k := ?_))
  simp (config := {maxSteps := 1000000}) only [↓pI_c, ↓pR_c, ↓pJ_c, ↓pV_c, ↓popN_0, ↓popN_s, ↓lI_0, ↓lR_0, ↓lJ_0, ↓lI_s, ↓lR_s, ↓lJ_s, ↓okSt_0, ↓okSt_I, ↓okSt_R, ↓okSt_N, ↓okSt_s, ↓rtI_s, ↓rtV_n, ↓brP_t, ↓brP_f, ↓sLog_move_0, ↓sLog_move_1, ↓rf_36_0, ↓sLog_move_4, ↓sLog_move_5, ↓sLog_move_7, ↓sLog_move_8, ↓sLog_move_9, ↓sLog_move_12, ↓sLog_move_13, ↓sLog_move_15, ↓sLog_move_16, ↓sLog_move_18, ↓sLog_move_21, ↓sLog_move_22, ↓rf_36_1, ↓sLog_move_25, ↓sLog_move_26, ↓sLog_move_27, ↓sLog_move_30, ↓sLog_move_31, ↓sLog_move_32, ↓sLog_move_33, ↓sLog_move_34, ↓rf_36_2, ↓sLog_move_37, ↓sLog_move_38, ↓sLog_move_39, ↓sLog_move_42, ↓sLog_move_43, ↓sLog_move_44, ↓sLog_move_45, ↓sLog_move_46, ↓rf_36_3, ↓sLog_move_49, ↓sLog_move_50, ↓sLog_move_51, ↓sLog_move_54, ↓sLog_move_55, ↓sLog_move_56, ↓sLog_move_57, ↓ln_37, ↓ln_38, ↓ln_39, ↓ln_40, List.set_cons_zero, List.set_cons_succ, List.length_cons, List.length_nil, List.contains_cons, List.contains_nil, cat1, brP_d, true_and, and_true, not_false_eq_true, not_true_eq_false, if_true, if_false, Bool.or_false, Bool.false_or, Bool.or_true, Bool.true_or, Bool.false_eq_true, Bool.or_self, false_implies, true_implies, forall_const, and_self, implies_true, true_or, or_true, or_false, false_or, or_self, Classical.not_not, Int.reduceAdd, Int.reduceSub, Int.reduceMul, Int.reduceNeg, Int.reduceToNat, Int.reduceLT, Int.reduceLE, Int.reduceEq, Int.reduceNe, Int.reduceNatCast', Nat.reduceAdd, Nat.reduceSub, Nat.reduceLeDiff, Nat.reduceLT, Nat.reduceEqDiff, Nat.reduceBEq, reduceIte, nx_w, nx_c, up_n, up_s, up_f, ne_eq, Nat.reduceEqDiff, Option.some.injEq, Prod.mk.injEq, exists_eq_left', reduceCtorEq, ar_37, ar_37.1, ep, et]
  rw [wr_id (x := (p : Int) * 12) (by omega) (by omega), wr_id (x := (t : Int) * 12) (by omega) (by omega), show ((p : Int) * 12).toNat = 12 * p by omega, show ((t : Int) * 12).toNat = 12 * t by omega]
  simp only [e 38 _ (by decide), e 39 _ (by decide), e 40 _ (by decide)]
  exact ⟨480, 480, rfl, rfl, by omega, by omega, by omega, by omega, by omega, by omega, by omega, rfl⟩
def kpP (f38 f37 r : Nat → Int) (l : Int) (p : Nat) : Prop := ¬ sameL f38 f37 r l p
/-- the first k pairs are gone through -/
def fgP (h : HP) (kp : Nat → Prop) (k : Nat) (h' : HP) : Prop := (∀ a, a < 37 ∨ 41 ≤ a → h' a = h a) ∧ (∀ p : Nat, p < k → kp p → h' 38 (cntP kp p).toNat = h 38 p ∧ h' 39 (cntP kp p).toNat = h 39 p ∧ h' 40 (cntP kp p).toNat = h 40 p ∧ ∀ i : Nat, i < 12 → h' 37 (12 * (cntP kp p).toNat + i) = h 37 (12 * p + i)) ∧ ∀ p : Nat, k ≤ p → h' 38 p = h 38 p ∧ h' 39 p = h 39 p ∧ h' 40 p = h 40 p ∧ ∀ i : Nat, i < 12 → h' 37 (12 * p + i) = h 37 (12 * p + i)
theorem fgP_s {h h' : HP} {kp : Nat → Prop} {k : Nat} (hf : fgP h kp k h') : (kp k → fgP h kp (k + 1) (mvH h' k (cntP kp k).toNat)) ∧ (¬ kp k → fgP h kp (k + 1) h') := by
  obtain ⟨a1, a2, a3⟩ := hf
  refine ⟨fun z => ?_, fun z => ⟨a1, fun p hp hk => ?_, fun p hp => a3 p (by omega)⟩⟩
  · have hin := cntP_in kp k
    obtain ⟨t, ht⟩ : ∃ t, (cntP kp k).toNat = t := ⟨_, rfl⟩
    rw [ht]
    have v38 : ∀ j, mvH h' k t 38 j = if j = t then h' 38 k else h' 38 j := fun j => by unfold mvH; rw [up_n (by decide), up_n (by decide), up_a, cpy_ne (by decide)]
    have v39 : ∀ j, mvH h' k t 39 j = if j = t then h' 39 k else h' 39 j := fun j => by unfold mvH; rw [up_n (by decide), up_a, up_n (by decide), cpy_ne (by decide)]
    have v40 : ∀ j, mvH h' k t 40 j = if j = t then h' 40 k else h' 40 j := fun j => by unfold mvH; rw [up_a, up_n (by decide), up_n (by decide), cpy_ne (by decide)]
    have v37 : ∀ j, mvH h' k t 37 j = if 12 * t ≤ j ∧ j < 12 * t + 12 then h' 37 (12 * k + (j - 12 * t)) else h' 37 j := fun j => by
      unfold mvH
      rw [up_n (by decide), up_n (by decide), up_n (by decide)]
      unfold cpy
      simp only [true_and]
    refine ⟨fun a ha => ?_, fun p hp hk => ?_, fun p hp => ?_⟩
    · unfold mvH
      rw [up_ne (by omega), up_ne (by omega), up_ne (by omega), cpy_ne (by omega)]
      exact a1 a ha
    · rw [v38, v39, v40]
      by_cases y : p = k
      · subst y
        rw [ht, if_pos rfl, if_pos rfl, if_pos rfl]
        obtain ⟨b1, b2', b3, b4⟩ := a3 p (Nat.le_refl p)
        refine ⟨b1, b2', b3, fun i hi => ?_⟩
        rw [v37, if_pos (by omega), show 12 * t + i - 12 * t = i by omega]
        exact b4 i hi
      · have lt := cntP_lt (show p < k by omega) hk
        have := cntP_in kp p
        rw [if_neg (by omega), if_neg (by omega), if_neg (by omega)]
        obtain ⟨b1, b2', b3, b4⟩ := a2 p (by omega) hk
        refine ⟨b1, b2', b3, fun i hi => ?_⟩
        rw [v37, if_neg (by omega)]
        exact b4 i hi
    · rw [v38, v39, v40, if_neg (by omega), if_neg (by omega), if_neg (by omega)]
      obtain ⟨b1, b2', b3, b4⟩ := a3 p (by omega)
      refine ⟨b1, b2', b3, fun i hi => ?_⟩
      rw [v37, if_neg (by omega)]
      exact b4 i hi
  · by_cases y : p = k
    · rw [y] at hk; exact absurd hk z
    · exact a2 p (by omega) hk
def qFgt (h : HP) (kp : Nat → Prop) (h' : HP) : Prop := ∃ h1, fgP h kp (h 36 4).toNat h1 ∧ h' = up h1 36 4 (cntP kp (h 36 4).toNat)
set_option maxRecDepth 100000 in
set_option maxHeartbeats 4000000 in
theorem l_Log_forget (h : HP) (h40 : 0 ≤ h 36 4 ∧ h 36 4 ≤ 40) (hl12 : ∀ p : Nat, (p : Int) < h 36 4 → h 38 p ≤ 12) (a l : Int) (hl : 0 ≤ l ∧ l ≤ 12) (ha : 0 ≤ a ∧ a + l ≤ 1080) : ∀ (d k : Nat) (h' : HP), h 36 4 - k < d → (k : Int) ≤ h 36 4 → fgP h (kpP (h 38) (h 37) (fun i => h 7 (a.toNat + i)) l) k h' → Wn Z4 mLog_forget SH0 6 [some (.inr (.inr 36)), some (.inr (.inr 7)), some (.inl a), some (.inl l), some (.inl (cntP (kpP (h 38) (h 37) (fun i => h 7 (a.toNat + i)) l) k)), some (.inl k)] [] h' (rtV (qFgt h (kpP (h 38) (h 37) (fun i => h 7 (a.toNat + i)) l))) := by
  obtain ⟨kp, hkp⟩ : ∃ kp, kpP (h 38) (h 37) (fun i => h 7 (a.toNat + i)) l = kp := ⟨_, rfl⟩
  rw [hkp]
  intro d
  induction d with
  | zero => intro k h' h1 h2; omega
  | succ d ih =>
    intro k h' h1 h2 h3
    obtain ⟨s1, s2⟩ := fgP_s h3
    obtain ⟨a1, a2, a3⟩ := h3
    have hin := cntP_in kp k
    have ek : ((k : Int)).toNat = k := by omega
    have e36 : h' 36 = h 36 := a1 36 (by decide)
    obtain ⟨b1, b2', b3, b4⟩ := a3 k (Nat.le_refl k)
    refine go [6] 400 (k := ?_)
    simp (config := {maxSteps := 1000000}) only [↓pI_c, ↓pR_c, ↓pJ_c, ↓pV_c, ↓popN_0, ↓popN_s, ↓lI_0, ↓lR_0, ↓lJ_0, ↓lI_s, ↓lR_s, ↓lJ_s, ↓okSt_0, ↓okSt_I, ↓okSt_R, ↓okSt_N, ↓okSt_s, ↓rtI_s, ↓rtV_n, ↓brP_t, ↓brP_f, ↓sLog_forget_0, ↓sLog_forget_1, ↓sLog_forget_3, ↓sLog_forget_4, ↓sLog_forget_6, ↓sLog_forget_8, ↓sLog_forget_9, ↓rf_36_4, ↓sLog_forget_12, ↓sLog_forget_15, ↓sLog_forget_16, ↓sLog_forget_18, ↓sLog_forget_19, ↓sLog_forget_20, ↓sLog_forget_21, ↓sLog_forget_24, ↓sLog_forget_27, ↓sLog_forget_28, ↓sLog_forget_30, ↓sLog_forget_32, ↓sLog_forget_35, ↓sLog_forget_38, ↓sLog_forget_41, ↓sLog_forget_44, ↓sLog_forget_45, ↓sLog_forget_47, ↓sLog_forget_50, List.set_cons_zero, List.set_cons_succ, List.length_cons, List.length_nil, List.contains_cons, List.contains_nil, cat1, brP_d, true_and, and_true, not_false_eq_true, not_true_eq_false, if_true, if_false, Bool.or_false, Bool.false_or, Bool.or_true, Bool.true_or, Bool.false_eq_true, Bool.or_self, false_implies, true_implies, forall_const, and_self, implies_true, true_or, or_true, or_false, false_or, or_self, Classical.not_not, Int.reduceAdd, Int.reduceSub, Int.reduceMul, Int.reduceNeg, Int.reduceToNat, Int.reduceLT, Int.reduceLE, Int.reduceEq, Int.reduceNe, Int.reduceNatCast', Nat.reduceAdd, Nat.reduceSub, Nat.reduceLeDiff, Nat.reduceLT, Nat.reduceEqDiff, Nat.reduceBEq, reduceIte, nx_w, nx_c, up_n, up_s, up_f, ne_eq, Nat.reduceEqDiff, Option.some.injEq, Prod.mk.injEq, exists_eq_left', reduceCtorEq, ob_36, e36]
    rw [wr_id (x := (k : Int) + 1) (by omega) (by omega), wr_id (x := cntP kp k + 1) (by omega) (by omega)]
    refine ⟨fun c1 => ?_, fun c1 => ?_⟩
    · have e : (h 36 4).toNat = k := by omega
      refine ⟨h', ?_, ?_⟩
      · rw [e]; exact ⟨a1, a2, a3⟩
      · rw [e]
    · have hl38 := hl12 k (by omega)
      have it := t_Log_isOfTyped h' 7 1080 k a l (fun f => ln_7.2) (by omega) hl.1 (by rw [ek, b1]; omega) (by omega)
      rw [ek] at it
      have hs : sameL (h' 38) (h' 37) (fun i => h' 7 (a.toNat + i)) l k ↔ ¬ kp k := by
        rw [← hkp]
        unfold kpP sameL
        rw [Classical.not_not, b1, a1 7 (by decide)]
        constructor
        · rintro ⟨z1, z2⟩
          exact ⟨z1, fun i hi => by rw [← b4 i (by omega)]; exact z2 i hi⟩
        · rintro ⟨z1, z2⟩
          exact ⟨z1, fun i hi => by rw [b4 i (by omega)]; exact z2 i hi⟩
      rw [hs] at it
      have hi := ih (k + 1)
      push_cast at hi
      refine use_b it (fun hc => ?_) (fun hc => ?_)
      · simp only [one_ne, not_false_eq_true, true_implies, false_implies, true_and, and_true]
        rw [cntP_n hc] at hi
        exact hi h' (by omega) (by omega) (s2 hc)
      · simp only [not_true_eq_false, true_implies, false_implies, true_and, and_true]
        have hc' := Classical.not_not.mp hc
        rw [cntP_y hc'] at hi
        have mv := t_Log_move h' k (cntP kp k).toNat (by omega) (by omega)
        rw [show (((cntP kp k).toNat : Nat) : Int) = cntP kp k by omega] at mv
        refine trV_use mv ?_
        rintro h2 rfl
        exact hi _ (by omega) (by omega) (s1 hc')
set_option maxRecDepth 100000 in
set_option maxHeartbeats 4000000 in
theorem t_Log_forget (h : HP) (h40 : 0 ≤ h 36 4 ∧ h 36 4 ≤ 40) (hl12 : ∀ p : Nat, (p : Int) < h 36 4 → h 38 p ≤ 12) (a l : Int) (hl : 0 ≤ l ∧ l ≤ 12) (ha : 0 ≤ a ∧ a + l ≤ 1080) : trV mLog_forget [.inr (.inr 36), .inr (.inr 7), .inl a, .inl l] SH0 h (qFgt h (kpP (h 38) (h 37) (fun i => h 7 (a.toNat + i)) l)) := by
  refine startV [some (.inr (.inr 36)), some (.inr (.inr 7)), some (.inl a), some (.inl l), none, none] mLog_forget_c (go [6] 400 (k := ?_))
  simp (config := {maxSteps := 1000000}) only [↓pI_c, ↓pR_c, ↓pJ_c, ↓pV_c, ↓popN_0, ↓popN_s, ↓lI_0, ↓lR_0, ↓lJ_0, ↓lI_s, ↓lR_s, ↓lJ_s, ↓okSt_0, ↓okSt_I, ↓okSt_R, ↓okSt_N, ↓okSt_s, ↓rtI_s, ↓rtV_n, ↓brP_t, ↓brP_f, ↓sLog_forget_0, ↓sLog_forget_1, ↓sLog_forget_3, ↓sLog_forget_4, ↓sLog_forget_6, ↓sLog_forget_8, ↓sLog_forget_9, ↓rf_36_4, ↓sLog_forget_12, ↓sLog_forget_15, ↓sLog_forget_16, ↓sLog_forget_18, ↓sLog_forget_19, ↓sLog_forget_20, ↓sLog_forget_21, ↓sLog_forget_24, ↓sLog_forget_27, ↓sLog_forget_28, ↓sLog_forget_30, ↓sLog_forget_32, ↓sLog_forget_35, ↓sLog_forget_38, ↓sLog_forget_41, ↓sLog_forget_44, ↓sLog_forget_45, ↓sLog_forget_47, ↓sLog_forget_50, List.set_cons_zero, List.set_cons_succ, List.length_cons, List.length_nil, List.contains_cons, List.contains_nil, cat1, brP_d, true_and, and_true, not_false_eq_true, not_true_eq_false, if_true, if_false, Bool.or_false, Bool.false_or, Bool.or_true, Bool.true_or, Bool.false_eq_true, Bool.or_self, false_implies, true_implies, forall_const, and_self, implies_true, true_or, or_true, or_false, false_or, or_self, Classical.not_not, Int.reduceAdd, Int.reduceSub, Int.reduceMul, Int.reduceNeg, Int.reduceToNat, Int.reduceLT, Int.reduceLE, Int.reduceEq, Int.reduceNe, Int.reduceNatCast', Nat.reduceAdd, Nat.reduceSub, Nat.reduceLeDiff, Nat.reduceLT, Nat.reduceEqDiff, Nat.reduceBEq, reduceIte, nx_w, nx_c, up_n, up_s, up_f, ne_eq, Nat.reduceEqDiff, Option.some.injEq, Prod.mk.injEq, exists_eq_left', reduceCtorEq, ob_36]
  exact l_Log_forget h h40 hl12 a l hl ha ((h 36 4).toNat + 1) 0 h (by push_cast; omega) (by push_cast; omega) ⟨fun _ _ => rfl, fun p hp => absurd hp (Nat.not_lt_zero p), fun p _ => ⟨rfl, rfl, rfl, fun _ _ => rfl⟩⟩
/-- what learn says and does -/
def lnS (g : HP) (i r : Int) (A : Prop) (B : Nat → Prop) : Prop := ∃ q, pkP (fwP (g 4 8) (g 40)) (g 36 4) i q (-1) ∧ ((q = -1 ∧ r = -2 ∧ A) ∨ ∃ p : Nat, q = p ∧ (p : Int) < g 36 4 ∧ ((known g (fun j => g 37 (12 * p + j)) (g 38 p) ∧ r = -3 ∧ A) ∨ (¬ known g (fun j => g 37 (12 * p + j)) (g 38 p) ∧ 90 ≤ g 6 3 ∧ r = -4 ∧ A) ∨ (¬ known g (fun j => g 37 (12 * p + j)) (g 38 p) ∧ g 6 3 < 90 ∧ r = cntE (g 9) (g 39 p) (g 6 3).toNat + 1 ∧ B p)))
def kpG (g : HP) (p : Nat) : Nat → Prop := kpP (g 38) (g 37) (fun j => g 37 (12 * p + j)) (g 38 p)
def qLnC (g : HP) (i r : Int) (h' : HP) : Prop := lnS g i r (h' = g) (fun p => qFgt (addNm g 37 ((12 * p : Nat) : Int) (g 38 p) (g 39 p)) (kpG g p) h')
theorem addNm_ne {h : HP} {kr a : Nat} {x l o : Int} (ha : a ≠ 6 ∧ a ≠ 7 ∧ a ≠ 8 ∧ a ≠ 9) : addNm h kr x l o a = h a := by
  unfold addNm
  rw [up_ne ha.1, up_ne ha.2.2.2, up_ne ha.2.2.1, cpy_ne ha.2.1]
set_option maxRecDepth 100000 in
set_option maxHeartbeats 4000000 in
theorem t_Help_learn (h : HP) (hC : CI h) (hG : CLg h) (i : Int) : trI mHelp_learn [.inr (.inr 0), .inl i] SH0 h (qLnC h i) := by
  have hN := hC.2.1
  have h90 := hN.2.1
  have h0 := hN.1
  have h40 := hG.2.1
  refine startI [some (.inr (.inr 0)), some (.inl i), none, none, none] mHelp_learn_c (go [9999] 400 (k := ?_))
  simp (config := {maxSteps := 1000000}) only [↓pI_c, ↓pR_c, ↓pJ_c, ↓pV_c, ↓popN_0, ↓popN_s, ↓lI_0, ↓lR_0, ↓lJ_0, ↓lI_s, ↓lR_s, ↓lJ_s, ↓okSt_0, ↓okSt_I, ↓okSt_R, ↓okSt_N, ↓okSt_s, ↓rtI_s, ↓rtV_n, ↓brP_t, ↓brP_f, ↓sHelp_learn_0, ↓sHelp_learn_1, ↓rf_0_11, ↓sHelp_learn_4, ↓sHelp_learn_5, ↓sHelp_learn_6, ↓rf_0_3, ↓sHelp_learn_9, ↓rf_3_0, ↓sHelp_learn_12, ↓sHelp_learn_14, ↓sHelp_learn_15, ↓sHelp_learn_18, ↓sHelp_learn_19, ↓sHelp_learn_20, ↓sHelp_learn_21, ↓sHelp_learn_24, ↓sHelp_learn_26, ↓sHelp_learn_27, ↓sHelp_learn_28, ↓rf_0_4, ↓sHelp_learn_31, ↓sHelp_learn_32, ↓sHelp_learn_35, ↓rf_36_0, ↓sHelp_learn_38, ↓sHelp_learn_39, ↓sHelp_learn_41, ↓sHelp_learn_42, ↓sHelp_learn_43, ↓sHelp_learn_46, ↓rf_36_1, ↓sHelp_learn_49, ↓sHelp_learn_50, ↓sHelp_learn_51, ↓sHelp_learn_54, ↓sHelp_learn_55, ↓sHelp_learn_58, ↓sHelp_learn_60, ↓sHelp_learn_61, ↓sHelp_learn_62, ↓sHelp_learn_65, ↓rf_6_3, ↓sHelp_learn_68, ↓sHelp_learn_70, ↓sHelp_learn_73, ↓sHelp_learn_75, ↓sHelp_learn_76, ↓sHelp_learn_77, ↓sHelp_learn_80, ↓rf_36_2, ↓sHelp_learn_83, ↓sHelp_learn_84, ↓sHelp_learn_85, ↓sHelp_learn_86, ↓sHelp_learn_87, ↓sHelp_learn_90, ↓sHelp_learn_91, ↓sHelp_learn_94, ↓sHelp_learn_97, ↓sHelp_learn_98, ↓sHelp_learn_100, ↓sHelp_learn_101, ↓sHelp_learn_102, ↓sHelp_learn_105, ↓sHelp_learn_108, ↓sHelp_learn_109, ↓sHelp_learn_110, ↓sHelp_learn_111, ↓sHelp_learn_114, ↓sHelp_learn_116, ↓sHelp_learn_117, ↓sHelp_learn_120, ↓sHelp_learn_121, ↓sHelp_learn_124, ↓rf_6_0, ↓sHelp_learn_127, ↓sHelp_learn_129, ↓sHelp_learn_131, ↓sHelp_learn_132, ↓sHelp_learn_133, ↓sHelp_learn_136, ↓rf_6_1, ↓sHelp_learn_139, ↓sHelp_learn_141, ↓sHelp_learn_142, ↓sHelp_learn_145, ↓sHelp_learn_146, ↓sHelp_learn_149, ↓sHelp_learn_150, ↓sHelp_learn_153, ↓ln_4, ↓ln_7, ↓ln_8, ↓ln_37, ↓ln_38, ↓ln_39, List.set_cons_zero, List.set_cons_succ, List.length_cons, List.length_nil, List.contains_cons, List.contains_nil, cat1, brP_d, true_and, and_true, not_false_eq_true, not_true_eq_false, if_true, if_false, Bool.or_false, Bool.false_or, Bool.or_true, Bool.true_or, Bool.false_eq_true, Bool.or_self, false_implies, true_implies, forall_const, and_self, implies_true, true_or, or_true, or_false, false_or, or_self, Classical.not_not, Int.reduceAdd, Int.reduceSub, Int.reduceMul, Int.reduceNeg, Int.reduceToNat, Int.reduceLT, Int.reduceLE, Int.reduceEq, Int.reduceNe, Int.reduceNatCast', Nat.reduceAdd, Nat.reduceSub, Nat.reduceLeDiff, Nat.reduceLT, Nat.reduceEqDiff, Nat.reduceBEq, reduceIte, nx_w, nx_c, up_n, up_s, up_f, ne_eq, Nat.reduceEqDiff, Option.some.injEq, Prod.mk.injEq, exists_eq_left', reduceCtorEq, ob_36, ob_6]
  refine use_q (t_Log_findForward h i _ ⟨hG.1, h40⟩) ?_
  intro q hq
  have hq' := pkP_in hq
  refine ⟨fun c1 => ?_, fun c1 => ⟨q, hq, Or.inl ⟨c1, rfl, rfl⟩⟩⟩
  obtain ⟨p, rfl⟩ : ∃ p : Nat, q = p := ⟨q.toNat, by omega⟩
  have hp : (p : Int) < h 36 4 := by omega
  have ep : ((p : Int)).toNat = p := by omega
  obtain ⟨l1, l2, l3⟩ := hG.2.2 p hp
  rw [ep, wr_id (x := (p : Int) * 12) (by omega) (by omega)]
  have fd := t_Names_find h 37 480 ((p : Int) * 12) (h 38 p) (fun f => ln_37.2) (by omega) (by omega) ⟨h0, h90⟩ (fun k hk => (hN.2.2.1 k hk).2.1)
  rw [show ((p : Int) * 12).toNat = 12 * p by omega] at fd
  refine ⟨by omega, use_q fd ?_⟩
  intro x hx
  refine ⟨fun c2 => ?_, fun c2 => ⟨p, hq, Or.inr ⟨p, rfl, hp, Or.inl ⟨?_, rfl, rfl⟩⟩⟩⟩
  · have hno : ¬ known h (fun j => h 37 (12 * p + j)) (h 38 p) := by
      rcases hx with ⟨_, hx⟩ | ⟨k, _, rfl, _⟩
      · rintro ⟨k, k1, k2⟩
        exact hx k k1 k2
      · omega
    refine ⟨fun c3 => ?_, fun c3 => ⟨p, hq, Or.inr ⟨p, rfl, hp, Or.inr (Or.inl ⟨hno, by omega, rfl, rfl⟩)⟩⟩⟩
    have ad := t_Names_add h 37 480 ((p : Int) * 12) (h 38 p) (h 39 p) (by rfl) (by omega) (by omega) (by omega)
    refine ⟨by omega, by omega, trI_use ad ?_⟩
    rintro y h1 ⟨rfl, rfl⟩
    have f : ∀ a, (a ≠ 6 ∧ a ≠ 7 ∧ a ≠ 8 ∧ a ≠ 9) → addNm h 37 ((p : Int) * 12) (h 38 p) (h 39 p) a = h a := fun a ha => addNm_ne ha
    have f8 : addNm h 37 ((p : Int) * 12) (h 38 p) (h 39 p) 8 (h 6 3).toNat = h 38 p := by unfold addNm; rw [up_n (by decide), up_n (by decide), up_s]
    have f7 : ∀ j : Nat, (j : Int) < h 38 p → addNm h 37 ((p : Int) * 12) (h 38 p) (h 39 p) 7 ((h 6 3 * 12).toNat + j) = h 37 (12 * p + j) := fun j hj => by
      unfold addNm
      rw [up_n (by decide), up_n (by decide), up_n (by decide)]
      unfold cpy
      rw [if_pos (by omega), show ((p : Int) * 12).toNat + ((h 6 3 * 12).toNat + j - (h 6 3 * 12).toNat) = 12 * p + j by omega]
    have f6 : addNm h 37 ((p : Int) * 12) (h 38 p) (h 39 p) 6 3 = h 6 3 + 1 := by unfold addNm; rw [up_s]
    have f9 : ∀ j : Nat, addNm h 37 ((p : Int) * 12) (h 38 p) (h 39 p) 9 j = if j = (h 6 3).toNat then h 39 p else h 9 j := fun j => by unfold addNm; rw [up_n (by decide), up_a, up_n (by decide), cpy_ne (by decide)]
    rw [wr_id (x := h 6 3 * 12) (by omega) (by omega), f8]
    have fg := t_Log_forget (addNm h 37 ((p : Int) * 12) (h 38 p) (h 39 p)) (by rw [f 36 (by decide)]; exact ⟨hG.1, h40⟩) (by rw [f 36 (by decide), f 38 (by decide)]; exact fun p hp => (hG.2.2 p hp).1.2) (h 6 3 * 12) (h 38 p) (by omega) (by omega)
    have ekp : kpP (addNm h 37 ((p : Int) * 12) (h 38 p) (h 39 p) 38) (addNm h 37 ((p : Int) * 12) (h 38 p) (h 39 p) 37) (fun i => addNm h 37 ((p : Int) * 12) (h 38 p) (h 39 p) 7 ((h 6 3 * 12).toNat + i)) (h 38 p) = kpG h p := by
      funext j
      refine propext (not_congr ?_)
      unfold sameL
      rw [f 38 (by decide), f 37 (by decide)]
      constructor
      · rintro ⟨z1, z2⟩
        exact ⟨z1, fun i hi => (z2 i hi).trans (f7 i hi)⟩
      · rintro ⟨z1, z2⟩
        exact ⟨z1, fun i hi => (z2 i hi).trans (f7 i hi).symm⟩
    rw [ekp] at fg
    refine ⟨by omega, trV_use fg ?_⟩
    rintro h2 ⟨h3, g1, rfl⟩
    have e6 : up h3 36 4 (cntP (kpG h p) (addNm h 37 ((p : Int) * 12) (h 38 p) (h 39 p) 36 4).toNat) 6 3 = h 6 3 + 1 := by rw [up_n (by decide), g1.1 6 (by decide)]; exact f6
    have co := t_Names_countOf (up h3 36 4 (cntP (kpG h p) (addNm h 37 ((p : Int) * 12) (h 38 p) (h 39 p) 36 4).toNat)) (h 39 p) (by rw [e6]; omega)
    refine use_p co ?_
    refine ⟨p, hq, Or.inr ⟨p, rfl, hp, Or.inr (Or.inr ⟨hno, by omega, ?_, h3, ?_, ?_⟩)⟩⟩
    · rw [e6, show (h 6 3 + 1).toNat = (h 6 3).toNat + 1 by omega]
      have e9 : ∀ j, up h3 36 4 (cntP (kpG h p) (addNm h 37 ((p : Int) * 12) (h 38 p) (h 39 p) 36 4).toNat) 9 j = if j = (h 6 3).toNat then h 39 p else h 9 j := fun j => by rw [up_n (by decide), g1.1 9 (by decide)]; exact f9 j
      show cntE _ (h 39 p) (h 6 3).toNat + (if _ = h 39 p then 1 else 0) = _
      rw [cntE_congr (f := h 9) (h 6 3).toNat (fun j hj => by rw [e9, if_neg (by omega)]), e9, if_pos rfl, if_pos rfl]
    · rw [show ((12 * p : Nat) : Int) = (p : Int) * 12 by omega]
      exact g1
    · rw [show ((12 * p : Nat) : Int) = (p : Int) * 12 by omega]
  · rcases hx with ⟨z, _⟩ | ⟨k, k1, _, k2⟩
    · exact absurd z c2
    · exact ⟨k, k1, k2⟩
