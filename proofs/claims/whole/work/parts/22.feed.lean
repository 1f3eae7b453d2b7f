/-! feed -/
def byC (w : Int64) (i : Int) : Int := band ((lushr w (8 * i)).toInt32.toInt) 255
def byM (w : Int64) (i : Int) : Int := ((lshr w (8 * i)) &&& 255).toInt32.toInt
theorem bits255 : ∀ j, j < 32 → (255#32).getLsbD j = decide (j < 8) := by decide
theorem bits255' : ∀ j, j < 64 → (255#64).getLsbD j = decide (j < 8) := by decide
theorem byte_bv (w : BitVec 64) (s : Nat) (hs : s ≤ 56) : ((w >>> s).setWidth 32 &&& 255#32) = ((w.sshiftRight s) &&& 255#64).setWidth 32 := by
  apply BitVec.eq_of_getLsbD_eq
  intro j hj
  simp only [BitVec.getLsbD_and, BitVec.getLsbD_setWidth, BitVec.getLsbD_ushiftRight, BitVec.getLsbD_sshiftRight, bits255 j hj, bits255' j (by omega), hj, decide_true, Bool.true_and]
  by_cases h8 : j < 8
  · simp [h8, show s + j < 64 by omega, show ¬ 64 ≤ j by omega]
  · simp [h8]
theorem amtU : ∀ n : Nat, n < 8 → ((Int32.ofInt (8 * (n : Int))).toInt64.toUInt64 &&& Int64.toUInt64 63).toBitVec % 64 = BitVec.ofNat 64 (8 * n) := by decide
theorem amtS : ∀ n : Nat, n < 8 → ((Int32.ofInt (8 * (n : Int))).toInt64 &&& 63).toBitVec.smod 64 = BitVec.ofNat 64 (8 * n) := by decide
theorem lushr_bv (w : Int64) (n : Nat) (hn : n < 8) : (lushr w (8 * (n : Int))).toBitVec = w.toBitVec >>> (8 * n) := by
  show w.toBitVec >>> (((Int32.ofInt (8 * (n : Int))).toInt64.toUInt64 &&& Int64.toUInt64 63).toBitVec % 64) = _
  rw [amtU n hn]
  show w.toBitVec >>> (BitVec.ofNat 64 (8 * n)).toNat = _
  rw [BitVec.toNat_ofNat, Nat.mod_eq_of_lt (by omega)]
theorem lshr_bv (w : Int64) (n : Nat) (hn : n < 8) : (lshr w (8 * (n : Int))).toBitVec = w.toBitVec.sshiftRight (8 * n) := by
  show BitVec.sshiftRight' w.toBitVec (((Int32.ofInt (8 * (n : Int))).toInt64 &&& 63).toBitVec.smod 64) = _
  rw [amtS n hn]
  show w.toBitVec.sshiftRight (BitVec.ofNat 64 (8 * n)).toNat = _
  rw [BitVec.toNat_ofNat, Nat.mod_eq_of_lt (by omega)]
theorem byte_ok (w : Int64) (i : Int) (h0 : 0 ≤ i) (h1 : i < 8) : byC w i = byM w i ∧ 0 ≤ byM w i ∧ byM w i ≤ 255 := by
  have key : ∀ n : Nat, n < 8 → Int32.ofInt ((lushr w (8 * (n : Int))).toInt32.toInt) &&& Int32.ofInt 255 = ((lshr w (8 * (n : Int))) &&& 255).toInt32 := by
    intro n hn
    rw [Int32.ofInt_toInt]
    apply Int32.toBitVec.inj
    show (lushr w (8 * (n : Int))).toBitVec.signExtend 32 &&& 255#32 = ((lshr w (8 * (n : Int))).toBitVec &&& 255#64).signExtend 32
    rw [BitVec.signExtend_eq_setWidth_of_le _ (by decide), BitVec.signExtend_eq_setWidth_of_le _ (by decide), lushr_bv w n hn, lshr_bv w n hn]
    exact byte_bv w.toBitVec (8 * n) (by omega)
  obtain ⟨n, rfl⟩ : ∃ n : Nat, i = n := ⟨i.toNat, by omega⟩
  have hk := key n (by omega)
  have e : byC w n = byM w n := by unfold byC byM band; rw [hk]
  refine ⟨e, ?_⟩
  rw [← e]
  unfold byC band
  obtain ⟨j, hj, ej⟩ := pk_andE (Int32.ofInt ((lushr w (8 * (n : Int))).toInt32.toInt)) (m := Int32.ofInt 255) 8 (by decide)
  rw [ej, nI_toInt (by omega)]
  omega
def fdP (h0 : HP) (kt ka kc : Nat) (t n : Int) (f : Int → Int) (h : HP) (c : Int) : Prop := h kc kt = t + c ∧ (∀ a b, ¬ (a = kc ∧ b = kt) → ¬ (a = ka ∧ t ≤ (b : Int)) → h a b = h0 a b) ∧ ∀ j : Nat, (j : Int) < c → h ka (t.toNat + j) = f (n - 1 - j)
theorem fd_step {h0 h : HP} {kt ka kc : Nat} {t n : Int} {f : Int → Int} {c x : Int} (ht : 0 ≤ t) (hc : 0 ≤ c) (hk : ka ≠ kc) (h1 : fdP h0 kt ka kc t n f h c) (hx : x = f (n - 1 - c)) : fdP h0 kt ka kc t n f (up (up h ka (t + c).toNat x) kc kt (t + c + 1)) (c + 1) := by
  obtain ⟨a1, a2, a3⟩ := h1
  refine ⟨by rw [up_s]; omega, fun a b e1 e2 => ?_, fun j hj => ?_⟩
  · rw [up_off e1, up_off (by rintro ⟨rfl, rfl⟩; exact e2 ⟨rfl, by omega⟩)]
    exact a2 a b e1 e2
  · rw [up_n hk]
    by_cases e : (j : Int) = c
    · rw [show (t + c).toNat = t.toNat + j by omega, up_s, hx, e]
    · rw [up_f (by omega)]
      exact a3 j (by omega)
set_option maxRecDepth 100000 in
set_option maxHeartbeats 4000000 in
theorem l_Help_feed (h0 : HP) (t n : Int) (w : Int64) (hn : 1 ≤ n ∧ n ≤ 8) (ht : 0 ≤ t ∧ t + n ≤ 80) : ∀ (d : Nat) (i : Int) (h : HP), i + 1 < d → -1 ≤ i → i < n → fdP h0 1 1 0 t n (byC w) h (n - 1 - i) → Wn Z4 mHelp_feed SH0 33 [some (.inr (.inr 0)), some (.inl n), some (.inr (.inl (w))), none, some (.inl i)] [] h (rtI (fun r h' => r = t + n ∧ fdP h0 1 1 0 t n (byC w) h' n)) := by
  intro d
  induction d with
  | zero => intro i h h1 h2; omega
  | succ d ih =>
    intro i h h1 h2 h3 h4
    refine go [33] 400 (k := ?_)
    simp (config := {maxSteps := 1000000}) only [↓pI_c, ↓pR_c, ↓pJ_c, ↓pV_c, ↓popN_0, ↓popN_s, ↓lI_0, ↓lR_0, ↓lJ_0, ↓lI_s, ↓lR_s, ↓lJ_s, ↓okSt_0, ↓okSt_I, ↓okSt_R, ↓okSt_N, ↓okSt_s, ↓rtI_s, ↓rtV_n, ↓brP_t, ↓brP_f, ↓sHelp_feed_0, ↓sHelp_feed_1, ↓sHelp_feed_2, ↓sHelp_feed_5, ↓sHelp_feed_6, ↓sHelp_feed_8, ↓sHelp_feed_11, ↓sHelp_feed_13, ↓sHelp_feed_14, ↓sHelp_feed_15, ↓rf_0_1, ↓sHelp_feed_18, ↓sHelp_feed_19, ↓sHelp_feed_20, ↓sHelp_feed_22, ↓sHelp_feed_25, ↓sHelp_feed_27, ↓sHelp_feed_28, ↓sHelp_feed_29, ↓sHelp_feed_30, ↓sHelp_feed_31, ↓sHelp_feed_33, ↓sHelp_feed_35, ↓sHelp_feed_38, ↓sHelp_feed_39, ↓rf_0_0, ↓sHelp_feed_42, ↓sHelp_feed_43, ↓sHelp_feed_46, ↓sHelp_feed_47, ↓sHelp_feed_49, ↓sHelp_feed_51, ↓sHelp_feed_52, ↓sHelp_feed_53, ↓sHelp_feed_54, ↓sHelp_feed_57, ↓sHelp_feed_58, ↓sHelp_feed_59, ↓sHelp_feed_60, ↓sHelp_feed_61, ↓sHelp_feed_64, ↓sHelp_feed_65, ↓sHelp_feed_66, ↓sHelp_feed_69, ↓sHelp_feed_72, ↓sHelp_feed_75, ↓sHelp_feed_76, ↓sHelp_feed_79, ↓ln_1, List.set_cons_zero, List.set_cons_succ, List.length_cons, List.length_nil, List.contains_cons, List.contains_nil, cat1, brP_d, true_and, and_true, not_false_eq_true, not_true_eq_false, if_true, if_false, Bool.or_false, Bool.false_or, Bool.or_true, Bool.true_or, Bool.false_eq_true, Bool.or_self, false_implies, true_implies, forall_const, and_self, implies_true, true_or, or_true, or_false, false_or, or_self, Classical.not_not, Int.reduceAdd, Int.reduceSub, Int.reduceMul, Int.reduceNeg, Int.reduceToNat, Int.reduceLT, Int.reduceLE, Int.reduceEq, Int.reduceNe, Int.reduceNatCast', Nat.reduceAdd, Nat.reduceSub, Nat.reduceLeDiff, Nat.reduceLT, Nat.reduceEqDiff, Nat.reduceBEq, reduceIte, nx_w, nx_c, up_n, up_s, up_f, ne_eq, Nat.reduceEqDiff, Option.some.injEq, Prod.mk.injEq, exists_eq_left', reduceCtorEq, h4.1]
    refine ⟨fun h5 => ?_, fun h5 => ?_⟩
    · have e : n - 1 - i = n := by omega
      rw [e] at h4
      exact ⟨by omega, h4⟩
    · rw [wr_id (x := 8 * i) (by omega) (by omega), wr_id (x := t + (n - 1 - i) + 1) (by omega) (by omega), wr_id (x := i + -1) (by omega) (by omega)]
      refine ⟨by omega, ih (i + -1) _ (by omega) (by omega) (by omega) ?_⟩
      have := fd_step (x := byC w i) ht.1 (by omega) (by decide) h4 (by rw [show n - 1 - (n - 1 - i) = i by omega])
      rw [show n - 1 - (i + -1) = n - 1 - i + 1 by omega]
      exact this
def qFeed (kt ka kc : Nat) (f : Int → Int) (h : HP) (n r : Int) (h' : HP) : Prop := (¬ (1 ≤ n ∧ n ≤ 8) ∧ r = -2 ∧ h' = h) ∨ ((1 ≤ n ∧ n ≤ 8) ∧ 80 < h kc kt + n ∧ r = -4 ∧ h' = h) ∨ ((1 ≤ n ∧ n ≤ 8) ∧ h kc kt + n ≤ 80 ∧ r = h kc kt + n ∧ fdP h kt ka kc (h kc kt) n f h' n)
set_option maxRecDepth 100000 in
set_option maxHeartbeats 4000000 in
theorem t_Help_feed (h : HP) (n : Int) (w : Int64) (hi : inR n) (ht : 0 ≤ h 0 1 ∧ h 0 1 ≤ 80) : trI mHelp_feed [.inr (.inr 0), .inl n, .inr (.inl (w))] SH0 h (qFeed 1 1 0 (byC w) h n) := by
  refine startI [some (.inr (.inr 0)), some (.inl n), some (.inr (.inl (w))), none, none] mHelp_feed_c (go [33] 400 (k := ?_))
  simp (config := {maxSteps := 1000000}) only [↓pI_c, ↓pR_c, ↓pJ_c, ↓pV_c, ↓popN_0, ↓popN_s, ↓lI_0, ↓lR_0, ↓lJ_0, ↓lI_s, ↓lR_s, ↓lJ_s, ↓okSt_0, ↓okSt_I, ↓okSt_R, ↓okSt_N, ↓okSt_s, ↓rtI_s, ↓rtV_n, ↓brP_t, ↓brP_f, ↓sHelp_feed_0, ↓sHelp_feed_1, ↓sHelp_feed_2, ↓sHelp_feed_5, ↓sHelp_feed_6, ↓sHelp_feed_8, ↓sHelp_feed_11, ↓sHelp_feed_13, ↓sHelp_feed_14, ↓sHelp_feed_15, ↓rf_0_1, ↓sHelp_feed_18, ↓sHelp_feed_19, ↓sHelp_feed_20, ↓sHelp_feed_22, ↓sHelp_feed_25, ↓sHelp_feed_27, ↓sHelp_feed_28, ↓sHelp_feed_29, ↓sHelp_feed_30, ↓sHelp_feed_31, ↓sHelp_feed_33, ↓sHelp_feed_35, ↓sHelp_feed_38, ↓sHelp_feed_39, ↓rf_0_0, ↓sHelp_feed_42, ↓sHelp_feed_43, ↓sHelp_feed_46, ↓sHelp_feed_47, ↓sHelp_feed_49, ↓sHelp_feed_51, ↓sHelp_feed_52, ↓sHelp_feed_53, ↓sHelp_feed_54, ↓sHelp_feed_57, ↓sHelp_feed_58, ↓sHelp_feed_59, ↓sHelp_feed_60, ↓sHelp_feed_61, ↓sHelp_feed_64, ↓sHelp_feed_65, ↓sHelp_feed_66, ↓sHelp_feed_69, ↓sHelp_feed_72, ↓sHelp_feed_75, ↓sHelp_feed_76, ↓sHelp_feed_79, ↓ln_1, List.set_cons_zero, List.set_cons_succ, List.length_cons, List.length_nil, List.contains_cons, List.contains_nil, cat1, brP_d, true_and, and_true, not_false_eq_true, not_true_eq_false, if_true, if_false, Bool.or_false, Bool.false_or, Bool.or_true, Bool.true_or, Bool.false_eq_true, Bool.or_self, false_implies, true_implies, forall_const, and_self, implies_true, true_or, or_true, or_false, false_or, or_self, Classical.not_not, Int.reduceAdd, Int.reduceSub, Int.reduceMul, Int.reduceNeg, Int.reduceToNat, Int.reduceLT, Int.reduceLE, Int.reduceEq, Int.reduceNe, Int.reduceNatCast', Nat.reduceAdd, Nat.reduceSub, Nat.reduceLeDiff, Nat.reduceLT, Nat.reduceEqDiff, Nat.reduceBEq, reduceIte, nx_w, nx_c, up_n, up_s, up_f, ne_eq, Nat.reduceEqDiff, Option.some.injEq, Prod.mk.injEq, exists_eq_left', reduceCtorEq]
  by_cases hn : 1 ≤ n ∧ n ≤ 8
  · simp only [show ¬ n < 1 by omega, show n ≤ 8 by omega, wr_id (x := h 0 1 + n) (by omega) (by omega), wr_id (x := n - 1) (by omega) (by omega), false_implies, true_implies, not_true_eq_false, not_false_eq_true, true_and, and_true]
    refine ⟨fun h5 => ?_, fun h5 => ?_⟩
    · refine Wt.mono ?_ (l_Help_feed h (h 0 1) n w hn ⟨ht.1, h5⟩ (n.toNat + 2) (n - 1) h (by omega) (by omega) (by omega) ⟨by omega, fun _ _ _ _ => rfl, fun j hj => by omega⟩)
      rintro v sh' h' ⟨rfl, hv⟩
      obtain ⟨r, rfl, h6, h7⟩ := rtI_ex hv
      exact ⟨rfl, Or.inr (Or.inr ⟨hn, h5, h6, h7⟩)⟩
    · exact Or.inr (Or.inl ⟨hn, by omega, rfl, rfl⟩)
  · refine ⟨fun _ => Or.inl ⟨hn, rfl, rfl⟩, fun h1 => ⟨fun h2 => absurd ⟨by omega, h2⟩ hn, fun _ => Or.inl ⟨hn, rfl, rfl⟩⟩⟩
set_option maxRecDepth 100000 in
set_option maxHeartbeats 4000000 in
theorem l_Model_feed (h0 : HP) (t n : Int) (w : Int64) (hn : 1 ≤ n ∧ n ≤ 8) (ht : 0 ≤ t ∧ t + n ≤ 80) : ∀ (d : Nat) (i : Int) (h : HP), i + 1 < d → -1 ≤ i → i < n → fdP h0 16 56 43 t n (byM w) h (n - 1 - i) → Wn Z4 mModel_feed SH0 37 [some (.inr (.inr 43)), some (.inl n), some (.inr (.inl (w))), none, some (.inl i)] [] h (rtI (fun r h' => r = t + n ∧ fdP h0 16 56 43 t n (byM w) h' n)) := by
  intro d
  induction d with
  | zero => intro i h h1 h2; omega
  | succ d ih =>
    intro i h h1 h2 h3 h4
    refine go [37] 400 (k := ?_)
    simp (config := {maxSteps := 1000000}) only [↓pI_c, ↓pR_c, ↓pJ_c, ↓pV_c, ↓popN_0, ↓popN_s, ↓lI_0, ↓lR_0, ↓lJ_0, ↓lI_s, ↓lR_s, ↓lJ_s, ↓okSt_0, ↓okSt_I, ↓okSt_R, ↓okSt_N, ↓okSt_s, ↓rtI_s, ↓rtV_n, ↓brP_t, ↓brP_f, ↓sModel_feed_0, ↓sModel_feed_1, ↓sModel_feed_2, ↓rf_43_0, ↓sModel_feed_5, ↓sModel_feed_6, ↓sModel_feed_7, ↓sModel_feed_9, ↓sModel_feed_12, ↓sModel_feed_15, ↓sModel_feed_17, ↓sModel_feed_18, ↓sModel_feed_19, ↓rf_43_16, ↓sModel_feed_22, ↓sModel_feed_23, ↓sModel_feed_24, ↓sModel_feed_26, ↓sModel_feed_29, ↓sModel_feed_31, ↓sModel_feed_32, ↓sModel_feed_33, ↓sModel_feed_34, ↓sModel_feed_35, ↓sModel_feed_37, ↓sModel_feed_39, ↓sModel_feed_42, ↓sModel_feed_43, ↓rf_43_17, ↓sModel_feed_46, ↓sModel_feed_47, ↓sModel_feed_50, ↓sModel_feed_51, ↓sModel_feed_53, ↓sModel_feed_55, ↓sModel_feed_56, ↓sModel_feed_57, ↓sModel_feed_60, ↓sModel_feed_61, ↓sModel_feed_62, ↓sModel_feed_63, ↓sModel_feed_64, ↓sModel_feed_65, ↓sModel_feed_68, ↓sModel_feed_69, ↓sModel_feed_70, ↓sModel_feed_73, ↓sModel_feed_76, ↓sModel_feed_79, ↓sModel_feed_80, ↓sModel_feed_83, ↓ln_56, List.set_cons_zero, List.set_cons_succ, List.length_cons, List.length_nil, List.contains_cons, List.contains_nil, cat1, brP_d, true_and, and_true, not_false_eq_true, not_true_eq_false, if_true, if_false, Bool.or_false, Bool.false_or, Bool.or_true, Bool.true_or, Bool.false_eq_true, Bool.or_self, false_implies, true_implies, forall_const, and_self, implies_true, true_or, or_true, or_false, false_or, or_self, Classical.not_not, Int.reduceAdd, Int.reduceSub, Int.reduceMul, Int.reduceNeg, Int.reduceToNat, Int.reduceLT, Int.reduceLE, Int.reduceEq, Int.reduceNe, Int.reduceNatCast', Nat.reduceAdd, Nat.reduceSub, Nat.reduceLeDiff, Nat.reduceLT, Nat.reduceEqDiff, Nat.reduceBEq, reduceIte, nx_w, nx_c, up_n, up_s, up_f, ne_eq, Nat.reduceEqDiff, Option.some.injEq, Prod.mk.injEq, exists_eq_left', reduceCtorEq, h4.1]
    refine ⟨fun h5 => ?_, fun h5 => ?_⟩
    · have e : n - 1 - i = n := by omega
      rw [e] at h4
      exact ⟨by omega, h4⟩
    · rw [wr_id (x := 8 * i) (by omega) (by omega), wr_id (x := t + (n - 1 - i) + 1) (by omega) (by omega), wr_id (x := i + -1) (by omega) (by omega)]
      refine ⟨by omega, ih (i + -1) _ (by omega) (by omega) (by omega) ?_⟩
      have := fd_step (x := byM w i) ht.1 (by omega) (by decide) h4 (by rw [show n - 1 - (n - 1 - i) = i by omega])
      rw [show n - 1 - (i + -1) = n - 1 - i + 1 by omega]
      exact this
set_option maxRecDepth 100000 in
set_option maxHeartbeats 4000000 in
theorem t_Model_feed (h : HP) (n : Int) (w : Int64) (hi : inR n) (ht : 0 ≤ h 43 16 ∧ h 43 16 ≤ 80) : trI mModel_feed [.inr (.inr 43), .inl n, .inr (.inl (w))] SH0 h (fun r h' => qFeed 16 56 43 (byM w) (up h 43 0 0) n r h') := by
  refine startI [some (.inr (.inr 43)), some (.inl n), some (.inr (.inl (w))), none, none] mModel_feed_c (go [37] 400 (k := ?_))
  simp (config := {maxSteps := 1000000}) only [↓pI_c, ↓pR_c, ↓pJ_c, ↓pV_c, ↓popN_0, ↓popN_s, ↓lI_0, ↓lR_0, ↓lJ_0, ↓lI_s, ↓lR_s, ↓lJ_s, ↓okSt_0, ↓okSt_I, ↓okSt_R, ↓okSt_N, ↓okSt_s, ↓rtI_s, ↓rtV_n, ↓brP_t, ↓brP_f, ↓sModel_feed_0, ↓sModel_feed_1, ↓sModel_feed_2, ↓rf_43_0, ↓sModel_feed_5, ↓sModel_feed_6, ↓sModel_feed_7, ↓sModel_feed_9, ↓sModel_feed_12, ↓sModel_feed_15, ↓sModel_feed_17, ↓sModel_feed_18, ↓sModel_feed_19, ↓rf_43_16, ↓sModel_feed_22, ↓sModel_feed_23, ↓sModel_feed_24, ↓sModel_feed_26, ↓sModel_feed_29, ↓sModel_feed_31, ↓sModel_feed_32, ↓sModel_feed_33, ↓sModel_feed_34, ↓sModel_feed_35, ↓sModel_feed_37, ↓sModel_feed_39, ↓sModel_feed_42, ↓sModel_feed_43, ↓rf_43_17, ↓sModel_feed_46, ↓sModel_feed_47, ↓sModel_feed_50, ↓sModel_feed_51, ↓sModel_feed_53, ↓sModel_feed_55, ↓sModel_feed_56, ↓sModel_feed_57, ↓sModel_feed_60, ↓sModel_feed_61, ↓sModel_feed_62, ↓sModel_feed_63, ↓sModel_feed_64, ↓sModel_feed_65, ↓sModel_feed_68, ↓sModel_feed_69, ↓sModel_feed_70, ↓sModel_feed_73, ↓sModel_feed_76, ↓sModel_feed_79, ↓sModel_feed_80, ↓sModel_feed_83, ↓ln_56, List.set_cons_zero, List.set_cons_succ, List.length_cons, List.length_nil, List.contains_cons, List.contains_nil, cat1, brP_d, true_and, and_true, not_false_eq_true, not_true_eq_false, if_true, if_false, Bool.or_false, Bool.false_or, Bool.or_true, Bool.true_or, Bool.false_eq_true, Bool.or_self, false_implies, true_implies, forall_const, and_self, implies_true, true_or, or_true, or_false, false_or, or_self, Classical.not_not, Int.reduceAdd, Int.reduceSub, Int.reduceMul, Int.reduceNeg, Int.reduceToNat, Int.reduceLT, Int.reduceLE, Int.reduceEq, Int.reduceNe, Int.reduceNatCast', Nat.reduceAdd, Nat.reduceSub, Nat.reduceLeDiff, Nat.reduceLT, Nat.reduceEqDiff, Nat.reduceBEq, reduceIte, nx_w, nx_c, up_n, up_s, up_f, ne_eq, Nat.reduceEqDiff, Option.some.injEq, Prod.mk.injEq, exists_eq_left', reduceCtorEq]
  refine use_p (t_Model_in _ n 1 8) ?_
  have e0 : up h 43 0 0 43 16 = h 43 16 := up_f (by decide)
  by_cases hn : 1 ≤ n ∧ n ≤ 8
  · simp only [b2, if_pos hn, e0, wr_id (x := h 43 16 + n) (by omega) (by omega), wr_id (x := n - 1) (by omega) (by omega), false_implies, true_implies, not_true_eq_false, not_false_eq_true, true_and, and_true, show ¬ (1 : Int) = 0 by decide]
    refine ⟨fun h5 => ?_, fun h5 => ?_⟩
    · refine Wt.mono ?_ (l_Model_feed (up h 43 0 0) (h 43 16) n w hn ⟨ht.1, h5⟩ (n.toNat + 2) (n - 1) _ (by omega) (by omega) (by omega) ⟨by rw [e0]; omega, fun _ _ _ _ => rfl, fun j hj => by omega⟩)
      rintro v sh' h' ⟨rfl, hv⟩
      obtain ⟨r, rfl, h6, h7⟩ := rtI_ex hv
      exact ⟨rfl, Or.inr (Or.inr ⟨hn, by rw [e0]; exact h5, by rw [e0]; exact h6, by rw [e0]; exact h7⟩)⟩
    · exact Or.inr (Or.inl ⟨hn, by rw [e0]; omega, rfl, rfl⟩)
  · simp only [b2, if_neg hn, true_implies, not_true_eq_false, false_implies, and_true, true_and]
    exact Or.inl ⟨hn, rfl, rfl⟩
