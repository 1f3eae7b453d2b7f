/-! what was typed is counted in the log -/
def sameL (f38 f37 : Nat → Int) (r : Nat → Int) (l : Int) (p : Nat) : Prop := f38 p = l ∧ ∀ i : Nat, (i : Int) < l → f37 (12 * p + i) = r i
set_option maxRecDepth 100000 in
set_option maxHeartbeats 4000000 in
theorem t_Log_isOfTyped (h : HP) (kr nr : Nat) (p a l : Int) (hkr : ∀ f, lenP 0 (rdAt SH0 kr) f = f nr) (hp : 0 ≤ p ∧ p < 40) (hl : 0 ≤ l) (h12 : h 38 p.toNat ≤ 12) (ha : 0 ≤ a ∧ a + l ≤ nr ∧ nr < 10000) : trI mLog_isOfTyped [.inr (.inr 36), .inl p, .inr (.inr (kr)), .inl a, .inl l] SH0 h (fun r h' => h' = h ∧ bP (sameL (h 38) (h 37) (fun i => h kr (a.toNat + i)) l p.toNat) r) := by
  refine startI [some (.inr (.inr 36)), some (.inl p), some (.inr (.inr (kr))), some (.inl a), some (.inl l)] mLog_isOfTyped_c (go [9999] 400 (k := ?_))
  simp (config := {maxSteps := 1000000}) only [↓pI_c, ↓pR_c, ↓pJ_c, ↓pV_c, ↓popN_0, ↓popN_s, ↓lI_0, ↓lR_0, ↓lJ_0, ↓lI_s, ↓lR_s, ↓lJ_s, ↓okSt_0, ↓okSt_I, ↓okSt_R, ↓okSt_N, ↓okSt_s, ↓rtI_s, ↓rtV_n, ↓brP_t, ↓brP_f, ↓sLog_isOfTyped_0, ↓sLog_isOfTyped_1, ↓rf_36_1, ↓sLog_isOfTyped_4, ↓sLog_isOfTyped_5, ↓sLog_isOfTyped_6, ↓sLog_isOfTyped_8, ↓sLog_isOfTyped_11, ↓sLog_isOfTyped_12, ↓rf_36_0, ↓sLog_isOfTyped_15, ↓sLog_isOfTyped_16, ↓sLog_isOfTyped_18, ↓sLog_isOfTyped_19, ↓sLog_isOfTyped_20, ↓sLog_isOfTyped_21, ↓sLog_isOfTyped_23, ↓sLog_isOfTyped_26, ↓sLog_isOfTyped_29, ↓sLog_isOfTyped_30, ↓sLog_isOfTyped_33, ↓sLog_isOfTyped_34, ↓ln_37, ↓ln_38, List.set_cons_zero, List.set_cons_succ, List.length_cons, List.length_nil, List.contains_cons, List.contains_nil, cat1, brP_d, true_and, and_true, not_false_eq_true, not_true_eq_false, if_true, if_false, Bool.or_false, Bool.false_or, Bool.or_true, Bool.true_or, Bool.false_eq_true, Bool.or_self, false_implies, true_implies, forall_const, and_self, implies_true, true_or, or_true, or_false, false_or, or_self, Classical.not_not, Int.reduceAdd, Int.reduceSub, Int.reduceMul, Int.reduceNeg, Int.reduceToNat, Int.reduceLT, Int.reduceLE, Int.reduceEq, Int.reduceNe, Int.reduceNatCast', Nat.reduceAdd, Nat.reduceSub, Nat.reduceLeDiff, Nat.reduceLT, Nat.reduceEqDiff, Nat.reduceBEq, reduceIte, nx_w, nx_c, up_n, up_s, up_f, ne_eq, Nat.reduceEqDiff, Option.some.injEq, Prod.mk.injEq, exists_eq_left', reduceCtorEq, ar_37, ar_38]
  refine ⟨by omega, fun c1 => Or.inr ⟨rfl, fun z => c1 z.1⟩, fun c1 => ?_⟩
  rw [wr_id (x := p * 12) (by omega) (by omega)]
  refine use_q (t_sameLetters h 37 kr 480 nr (p * 12) a l (fun f => ln_37.2) hkr hl (by omega) ha) ?_
  have e : ∀ j : Nat, (p * 12).toNat + j = 12 * p.toNat + j := fun j => by omega
  unfold sl
  simp only [e]
  rintro r (⟨rfl, hs⟩ | ⟨rfl, hs⟩)
  · simp only [one_ne, not_false_eq_true, true_implies, false_implies, true_and, and_true]
    exact Or.inl ⟨rfl, c1, hs⟩
  · simp only [not_true_eq_false, true_implies, false_implies, true_and, and_true]
    exact Or.inr ⟨rfl, fun z => hs z.2⟩
def lgP (h : HP) (k : Nat) (w : Int) (p : Nat) : Prop := h 39 p = w ∧ sameL (h 38) (h 37) (tw h k) (h 23 k) p
def lgAdd (h : HP) (k : Nat) (w : Int) : HP := up (up (up (up (cpy h 21 37 (h 22 k).toNat (h 36 4 * 12).toNat (h 23 k).toNat) 38 (h 36 4).toNat (h 23 k)) 39 (h 36 4).toNat w) 40 (h 36 4).toNat 1) 36 4 (h 36 4 + 1)
def qLog (h : HP) (k : Nat) (w : Int) (h' : HP) : Prop := (∃ p : Nat, (p : Int) < h 36 4 ∧ lgP h k w p ∧ (∀ j : Nat, j < p → ¬ lgP h k w j) ∧ h' = up h 40 p (wr (h 40 p + 1))) ∨ ((∀ p : Nat, (p : Int) < h 36 4 → ¬ lgP h k w p) ∧ (((12 < h 23 k ∨ 40 ≤ h 36 4) ∧ h' = h) ∨ (h 23 k ≤ 12 ∧ h 36 4 < 40 ∧ h' = lgAdd h k w)))
set_option maxRecDepth 100000 in
set_option maxHeartbeats 4000000 in
theorem l_Log_add (h : HP) (hG : CLg h) (k : Nat) (hk : tyIn h k) (w : Int) : ∀ (d i : Nat), h 36 4 - i < d → (i : Int) ≤ h 36 4 → (∀ j : Nat, j < i → ¬ lgP h k w j) → Wn Z4 mLog_add SH0 3 [some (.inr (.inr 36)), some (.inr (.inr 21)), some (.inl (h 22 k)), some (.inl (h 23 k)), some (.inl w), some (.inl i)] [] h (rtV (qLog h k w)) := by
  have h40 := hG.2.1
  have h0 := hG.1
  obtain ⟨⟨t1, t2, t3⟩, _⟩ := hk
  intro d
  induction d with
  | zero => intro i h1 h2; omega
  | succ d ih =>
    intro i h1 h2 h3
    have ei : ((i : Int)).toNat = i := by omega
    have e0 : ∀ b, cpy h 21 37 (h 22 k).toNat (h 36 4 * 12).toNat (h 23 k).toNat 36 b = h 36 b := fun b => by rw [cpy_ne (by decide)]
    have nx : (i : Int) < h 36 4 → ¬ lgP h k w i → Wn Z4 mLog_add SH0 3 [some (.inr (.inr 36)), some (.inr (.inr 21)), some (.inl (h 22 k)), some (.inl (h 23 k)), some (.inl w), some (.inl ((i : Int) + 1))] [] h (rtV (qLog h k w)) := fun c1 z => by
      have := ih (i + 1) (by push_cast; omega) (by push_cast; omega) (fun j hj => by
        by_cases e : j = i
        · rw [e]; exact z
        · exact h3 j (by omega))
      push_cast at this
      exact this
    refine go [3] 400 (k := ?_)
    simp (config := {maxSteps := 1000000}) only [↓pI_c, ↓pR_c, ↓pJ_c, ↓pV_c, ↓popN_0, ↓popN_s, ↓lI_0, ↓lR_0, ↓lJ_0, ↓lI_s, ↓lR_s, ↓lJ_s, ↓okSt_0, ↓okSt_I, ↓okSt_R, ↓okSt_N, ↓okSt_s, ↓rtI_s, ↓rtV_n, ↓brP_t, ↓brP_f, ↓sLog_add_0, ↓sLog_add_1, ↓sLog_add_3, ↓sLog_add_5, ↓sLog_add_6, ↓rf_36_4, ↓sLog_add_9, ↓sLog_add_12, ↓sLog_add_13, ↓rf_36_2, ↓sLog_add_16, ↓sLog_add_18, ↓sLog_add_19, ↓sLog_add_21, ↓sLog_add_24, ↓sLog_add_25, ↓sLog_add_27, ↓sLog_add_28, ↓sLog_add_29, ↓sLog_add_30, ↓sLog_add_33, ↓sLog_add_36, ↓sLog_add_37, ↓rf_36_3, ↓sLog_add_40, ↓sLog_add_42, ↓sLog_add_43, ↓sLog_add_44, ↓sLog_add_45, ↓sLog_add_46, ↓sLog_add_47, ↓sLog_add_48, ↓sLog_add_51, ↓sLog_add_54, ↓sLog_add_55, ↓sLog_add_57, ↓sLog_add_60, ↓sLog_add_61, ↓sLog_add_64, ↓sLog_add_66, ↓sLog_add_69, ↓sLog_add_70, ↓sLog_add_71, ↓sLog_add_72, ↓sLog_add_73, ↓rf_36_0, ↓sLog_add_76, ↓sLog_add_77, ↓sLog_add_80, ↓sLog_add_82, ↓sLog_add_83, ↓sLog_add_84, ↓sLog_add_87, ↓sLog_add_88, ↓rf_36_1, ↓sLog_add_91, ↓sLog_add_92, ↓sLog_add_95, ↓sLog_add_96, ↓sLog_add_97, ↓sLog_add_98, ↓sLog_add_101, ↓sLog_add_102, ↓sLog_add_105, ↓sLog_add_107, ↓sLog_add_108, ↓sLog_add_109, ↓sLog_add_112, ↓sLog_add_113, ↓sLog_add_116, ↓sLog_add_117, ↓sLog_add_118, ↓sLog_add_119, ↓sLog_add_120, ↓sLog_add_123, ↓sLog_add_124, ↓sLog_add_125, ↓sLog_add_128, ↓ln_37, ↓ln_38, ↓ln_39, ↓ln_40, List.set_cons_zero, List.set_cons_succ, List.length_cons, List.length_nil, List.contains_cons, List.contains_nil, cat1, brP_d, true_and, and_true, not_false_eq_true, not_true_eq_false, if_true, if_false, Bool.or_false, Bool.false_or, Bool.or_true, Bool.true_or, Bool.false_eq_true, Bool.or_self, false_implies, true_implies, forall_const, and_self, implies_true, true_or, or_true, or_false, false_or, or_self, Classical.not_not, Int.reduceAdd, Int.reduceSub, Int.reduceMul, Int.reduceNeg, Int.reduceToNat, Int.reduceLT, Int.reduceLE, Int.reduceEq, Int.reduceNe, Int.reduceNatCast', Nat.reduceAdd, Nat.reduceSub, Nat.reduceLeDiff, Nat.reduceLT, Nat.reduceEqDiff, Nat.reduceBEq, reduceIte, nx_w, nx_c, up_n, up_s, up_f, ne_eq, Nat.reduceEqDiff, Option.some.injEq, Prod.mk.injEq, exists_eq_left', reduceCtorEq, ob_36, ar_40, ar_37, ar_39, ei, ar_21.1, ar_37.1]
    rw [wr_id (x := (i : Int) + 1) (by omega) (by omega), wr_id (x := h 36 4 * 12) (by omega) (by omega)]
    simp only [e0]
    rw [wr_id (x := h 36 4 + 1) (by omega) (by omega)]
    have hno : h 36 4 ≤ i → ∀ p : Nat, (p : Int) < h 36 4 → ¬ lgP h k w p := fun c1 p hp => h3 p (by omega)
    refine ⟨fun c1 => ⟨fun c2 => Or.inr ⟨hno c1, Or.inl ⟨Or.inl c2, rfl⟩⟩, fun c2 => ⟨fun c3 => ⟨92, 480, rfl, rfl, by omega, by omega, by omega, by omega, Or.inr ⟨hno c1, Or.inr ⟨by omega, c3, rfl⟩⟩⟩, fun c3 => Or.inr ⟨hno c1, Or.inl ⟨Or.inr (by omega), rfl⟩⟩⟩⟩, fun c1 => ⟨by omega, fun c2 => nx (by omega) (fun z => c2 z.1), fun c2 => ?_⟩⟩
    have l := (hG.2.2 i (by omega)).1
    have it := t_Log_isOfTyped h 21 92 i (h 22 k) (h 23 k) (fun f => ln_21.2) (by omega) (by omega) (by rw [ei]; omega) (by omega)
    rw [ei] at it
    refine use_b it (fun hc => ?_) (fun hc => ?_)
    · simp only [one_ne, not_false_eq_true, true_implies, false_implies, true_and, and_true]
      exact ⟨by omega, by omega, Or.inl ⟨i, by omega, ⟨c2, hc⟩, h3, rfl⟩⟩
    · simp only [not_true_eq_false, true_implies, false_implies, true_and, and_true]
      exact nx (by omega) (fun z => hc z.2)
set_option maxRecDepth 100000 in
set_option maxHeartbeats 4000000 in
theorem t_Log_add (h : HP) (hG : CLg h) (k : Nat) (hk : tyIn h k) (w : Int) : trV mLog_add [.inr (.inr 36), .inr (.inr 21), .inl (h 22 k), .inl (h 23 k), .inl w] SH0 h (qLog h k w) := by
  have h0 := hG.1
  refine startV [some (.inr (.inr 36)), some (.inr (.inr 21)), some (.inl (h 22 k)), some (.inl (h 23 k)), some (.inl w), none] mLog_add_c (go [3] 400 (k := ?_))
  simp (config := {maxSteps := 1000000}) only [↓pI_c, ↓pR_c, ↓pJ_c, ↓pV_c, ↓popN_0, ↓popN_s, ↓lI_0, ↓lR_0, ↓lJ_0, ↓lI_s, ↓lR_s, ↓lJ_s, ↓okSt_0, ↓okSt_I, ↓okSt_R, ↓okSt_N, ↓okSt_s, ↓rtI_s, ↓rtV_n, ↓brP_t, ↓brP_f, ↓sLog_add_0, ↓sLog_add_1, ↓sLog_add_3, ↓sLog_add_5, ↓sLog_add_6, ↓rf_36_4, ↓sLog_add_9, ↓sLog_add_12, ↓sLog_add_13, ↓rf_36_2, ↓sLog_add_16, ↓sLog_add_18, ↓sLog_add_19, ↓sLog_add_21, ↓sLog_add_24, ↓sLog_add_25, ↓sLog_add_27, ↓sLog_add_28, ↓sLog_add_29, ↓sLog_add_30, ↓sLog_add_33, ↓sLog_add_36, ↓sLog_add_37, ↓rf_36_3, ↓sLog_add_40, ↓sLog_add_42, ↓sLog_add_43, ↓sLog_add_44, ↓sLog_add_45, ↓sLog_add_46, ↓sLog_add_47, ↓sLog_add_48, ↓sLog_add_51, ↓sLog_add_54, ↓sLog_add_55, ↓sLog_add_57, ↓sLog_add_60, ↓sLog_add_61, ↓sLog_add_64, ↓sLog_add_66, ↓sLog_add_69, ↓sLog_add_70, ↓sLog_add_71, ↓sLog_add_72, ↓sLog_add_73, ↓rf_36_0, ↓sLog_add_76, ↓sLog_add_77, ↓sLog_add_80, ↓sLog_add_82, ↓sLog_add_83, ↓sLog_add_84, ↓sLog_add_87, ↓sLog_add_88, ↓rf_36_1, ↓sLog_add_91, ↓sLog_add_92, ↓sLog_add_95, ↓sLog_add_96, ↓sLog_add_97, ↓sLog_add_98, ↓sLog_add_101, ↓sLog_add_102, ↓sLog_add_105, ↓sLog_add_107, ↓sLog_add_108, ↓sLog_add_109, ↓sLog_add_112, ↓sLog_add_113, ↓sLog_add_116, ↓sLog_add_117, ↓sLog_add_118, ↓sLog_add_119, ↓sLog_add_120, ↓sLog_add_123, ↓sLog_add_124, ↓sLog_add_125, ↓sLog_add_128, ↓ln_37, ↓ln_38, ↓ln_39, ↓ln_40, List.set_cons_zero, List.set_cons_succ, List.length_cons, List.length_nil, List.contains_cons, List.contains_nil, cat1, brP_d, true_and, and_true, not_false_eq_true, not_true_eq_false, if_true, if_false, Bool.or_false, Bool.false_or, Bool.or_true, Bool.true_or, Bool.false_eq_true, Bool.or_self, false_implies, true_implies, forall_const, and_self, implies_true, true_or, or_true, or_false, false_or, or_self, Classical.not_not, Int.reduceAdd, Int.reduceSub, Int.reduceMul, Int.reduceNeg, Int.reduceToNat, Int.reduceLT, Int.reduceLE, Int.reduceEq, Int.reduceNe, Int.reduceNatCast', Nat.reduceAdd, Nat.reduceSub, Nat.reduceLeDiff, Nat.reduceLT, Nat.reduceEqDiff, Nat.reduceBEq, reduceIte, nx_w, nx_c, up_n, up_s, up_f, ne_eq, Nat.reduceEqDiff, Option.some.injEq, Prod.mk.injEq, exists_eq_left', reduceCtorEq, ob_36, ar_40, ar_37, ar_39]
  exact l_Log_add h hG k hk w ((h 36 4).toNat + 1) 0 (by push_cast; omega) (by push_cast; omega) (fun j hj => absurd hj (Nat.not_lt_zero j))
theorem qLog_ne {h h' : HP} {k : Nat} {w : Int} (hq : qLog h k w h') : (∀ a, a < 36 ∨ 41 ≤ a → h' a = h a) ∧ ∀ b, b ≠ 4 → h' 36 b = h 36 b := by
  rcases hq with ⟨p, _, _, _, rfl⟩ | ⟨_, ⟨_, rfl⟩ | ⟨_, _, rfl⟩⟩
  · exact ⟨fun a ha => by rw [up_ne (by omega)], fun b _ => by rw [up_n (by decide)]⟩
  · exact ⟨fun _ _ => rfl, fun _ _ => rfl⟩
  · unfold lgAdd
    refine ⟨fun a ha => ?_, fun b hb => ?_⟩
    · rw [up_ne (by omega), up_ne (by omega), up_ne (by omega), up_ne (by omega), cpy_ne (by omega)]
    · rw [up_f hb, up_n (by decide), up_n (by decide), up_n (by decide), cpy_ne (by decide)]
