/-! the nearest rule: what it is; the class's pairs -/
noncomputable def lcR (Q : Nat → Nat → Prop) (T B a : Nat) (prev : Nat → Int) : Nat → Int
  | 0 => 0
  | b + 1 => @ite _ (Q (T - (a + 1)) (B - (b + 1))) (Classical.propDecidable _) (max (max (prev (b + 1)) (lcR Q T B a prev b)) (1 + prev b)) (max (prev (b + 1)) (lcR Q T B a prev b))
noncomputable def lcT (Q : Nat → Nat → Prop) (T B : Nat) : Nat → Nat → Int
  | 0 => fun _ => 0
  | a + 1 => lcR Q T B a (lcT Q T B a)
theorem lcT_in (Q : Nat → Nat → Prop) (T B : Nat) : ∀ a b : Nat, 0 ≤ lcT Q T B a b ∧ lcT Q T B a b ≤ a
  | 0, b => by show (0 : Int) ≤ 0 ∧ (0 : Int) ≤ ((0 : Nat) : Int); omega
  | a + 1, 0 => by show (0 : Int) ≤ 0 ∧ (0 : Int) ≤ ((a + 1 : Nat) : Int); omega
  | a + 1, b + 1 => by
    have h1 := lcT_in Q T B a (b + 1)
    have h2 := lcT_in Q T B (a + 1) b
    have h3 := lcT_in Q T B a b
    show 0 ≤ @ite _ (Q (T - (a + 1)) (B - (b + 1))) (Classical.propDecidable _) (max (max (lcT Q T B a (b + 1)) (lcT Q T B (a + 1) b)) (1 + lcT Q T B a b)) (max (lcT Q T B a (b + 1)) (lcT Q T B (a + 1) b)) ∧ @ite _ (Q (T - (a + 1)) (B - (b + 1))) (Classical.propDecidable _) (max (max (lcT Q T B a (b + 1)) (lcT Q T B (a + 1) b)) (1 + lcT Q T B a b)) (max (lcT Q T B a (b + 1)) (lcT Q T B (a + 1) b)) ≤ ((a + 1 : Nat) : Int)
    push_cast at *
    split <;> omega
noncomputable def cl (Q : Nat → Nat → Prop) (T B t w : Nat) : Int := lcT Q T B (T - t) (B - w)
theorem cl_in {Q : Nat → Nat → Prop} {T B t w : Nat} : 0 ≤ cl Q T B t w ∧ cl Q T B t w ≤ T := by
  have := lcT_in Q T B (T - t) (B - w)
  unfold cl
  omega
theorem cl_T {Q : Nat → Nat → Prop} {T B t w : Nat} (h : T ≤ t) : cl Q T B t w = 0 := by
  unfold cl
  rw [show T - t = 0 by omega]
  rfl
theorem cl_B {Q : Nat → Nat → Prop} {T B t w : Nat} (h : B ≤ w) : cl Q T B t w = 0 := by
  unfold cl
  rw [show B - w = 0 by omega]
  cases T - t with
  | zero => rfl
  | succ a => rfl
theorem cl_s {Q : Nat → Nat → Prop} {T B t w : Nat} (h1 : t < T) (h2 : w < B) : (Q t w ∧ cl Q T B t w = max (max (cl Q T B (t + 1) w) (cl Q T B t (w + 1))) (1 + cl Q T B (t + 1) (w + 1))) ∨ (¬ Q t w ∧ cl Q T B t w = max (cl Q T B (t + 1) w) (cl Q T B t (w + 1))) := by
  unfold cl
  obtain ⟨a, ha⟩ : ∃ a, T - (t + 1) = a := ⟨_, rfl⟩
  obtain ⟨b, hb⟩ : ∃ b, B - (w + 1) = b := ⟨_, rfl⟩
  rw [show T - t = a + 1 by omega, show B - w = b + 1 by omega, ha, hb]
  have e : lcT Q T B (a + 1) (b + 1) = @ite _ (Q (T - (a + 1)) (B - (b + 1))) (Classical.propDecidable _) (max (max (lcT Q T B a (b + 1)) (lcT Q T B (a + 1) b)) (1 + lcT Q T B a b)) (max (lcT Q T B a (b + 1)) (lcT Q T B (a + 1) b)) := rfl
  rw [show T - (a + 1) = t by omega, show B - (b + 1) = w by omega] at e
  by_cases z : Q t w
  · rw [if_pos z] at e
    exact Or.inl ⟨z, e⟩
  · rw [if_neg z] at e
    exact Or.inr ⟨z, e⟩
/-- the first of the least -/
def fmP (p : Nat → Prop) (f : Nat → Int) (n x d : Int) : Prop := (x = -1 ∧ ∀ i : Nat, (i : Int) < n → ¬ p i) ∨ ∃ q : Nat, (q : Int) < n ∧ x = q ∧ p q ∧ d = f q ∧ (∀ i : Nat, (i : Int) < n → p i → f q ≤ f i) ∧ ∀ i : Nat, i < q → p i → f q < f i
theorem fmP_uni {p : Nat → Prop} {f : Nat → Int} {n x d x' d' : Int} (h1 : fmP p f n x d) (h2 : fmP p f n x' d') : x = x' := by
  rcases h1 with ⟨rfl, a⟩ | ⟨q, a1, rfl, a2, a3, a4, a5⟩
  · rcases h2 with ⟨rfl, b⟩ | ⟨q', b1, rfl, b2, b3, b4, b5⟩
    · rfl
    · exact absurd b2 (a q' b1)
  · rcases h2 with ⟨rfl, b⟩ | ⟨q', b1, rfl, b2, b3, b4, b5⟩
    · exact absurd a2 (b q a1)
    · rcases Nat.lt_trichotomy q q' with z | z | z
      · have := b5 q z a2
        have := a4 q' b1 b2
        omega
      · rw [z]
      · have := a5 q' z b2
        have := b4 q a1 a2
        omega
theorem fmP_s {p : Nat → Prop} {f : Nat → Int} {n x d : Int} (h0 : 0 ≤ n) (hp : fmP p f n x d) : (¬ p n.toNat → fmP p f (n + 1) x d) ∧ (p n.toNat → (x = -1 ∨ f n.toNat < d) → fmP p f (n + 1) n (f n.toNat)) ∧ (p n.toNat → ¬ (x = -1) → ¬ (f n.toNat < d) → fmP p f (n + 1) x d) := by
  refine ⟨fun e => ?_, fun e1 e2 => ?_, fun e1 e2 e3 => ?_⟩
  · rcases hp with ⟨rfl, a⟩ | ⟨q, a1, a2, a3, a4, a5, a6⟩
    · refine Or.inl ⟨rfl, fun i hi => ?_⟩
      by_cases z : (i : Int) = n
      · rw [show i = n.toNat by omega]; exact e
      · exact a i (by omega)
    · refine Or.inr ⟨q, by omega, a2, a3, a4, fun i hi hw => ?_, a6⟩
      by_cases z : (i : Int) = n
      · rw [show i = n.toNat by omega] at hw; exact absurd hw e
      · exact a5 i (by omega) hw
  · refine Or.inr ⟨n.toNat, by omega, by omega, e1, rfl, fun i hi hw => ?_, fun i hi hw => ?_⟩
    · by_cases z : (i : Int) = n
      · rw [show i = n.toNat by omega]; exact Int.le_refl _
      · rcases hp with ⟨rfl, a⟩ | ⟨q, a1, a2, a3, a4, a5, a6⟩
        · exact absurd hw (a i (by omega))
        · have := a5 i (by omega) hw
          omega
    · rcases hp with ⟨rfl, a⟩ | ⟨q, a1, a2, a3, a4, a5, a6⟩
      · exact absurd hw (a i (by omega))
      · have := a5 i (by omega) hw
        omega
  · rcases hp with ⟨rfl, a⟩ | ⟨q, a1, a2, a3, a4, a5, a6⟩
    · exact absurd rfl e2
    · refine Or.inr ⟨q, by omega, a2, a3, a4, fun i hi hw => ?_, a6⟩
      by_cases z : (i : Int) = n
      · rw [show i = n.toNat by omega]; omega
      · exact a5 i (by omega) hw
/-- every word that is meant is known and in scope, and the first is a verb -/
def allK (g : HP) : Prop := 0 < mN g ∧ isK g (mW g 0) 0 ∧ ∀ i : Nat, (i : Int) < mN g → (0 ≤ mW g i ∧ mW g i < g 10 4) ∧ ¬ g 13 (mW g i).toNat = 0
theorem verd_06 {g : HP} (hN : CN g) {v c p x : Int} (h : verdR g (mN g) (fun i => mT g i) (mW g) v c p x) (hv : v = 0 ∨ v = 6) : allK g ∧ c = -1 ∧ fitF g (mW g) (mN g) x ∧ v = (if x = -1 then 6 else 0) := by
  rcases h with ⟨_, a, _⟩ | ⟨a1, a2, a3, a4, q, a5, a6, a7, a8, a9⟩ | ⟨a1, a2, a⟩
  · omega
  · split at a4 <;> omega
  · rcases a with ⟨_, a, _⟩ | ⟨_, q, _, _, _, a, _⟩ | ⟨b1, b2, b3, b4, b5⟩
    · omega
    · omega
    · refine ⟨⟨a1, b1, fun i hi => ⟨?_, b2 i hi⟩⟩, b3, b4, b5⟩
      rcases wd_in hN (mT g i) with z | z
      · exact absurd z (cntE_0 _ a2 i (by omega))
      · exact z
noncomputable def prQ (g : HP) (r t w : Nat) : Prop := asP g (mW g (w + 1)) (g 18 (4 * r + t))
noncomputable def clG (g : HP) (r t w : Nat) : Int := cl (prQ g r) (g 17 r).toNat (mN g - 1).toNat t w
noncomputable def offG (g : HP) (r : Nat) : Int := g 17 r + mN g - 1 - 2 * clG g r 0 0
theorem asP_congr {h h' : HP} (e10 : h' 10 = h 10) (e11 : h' 11 = h 11) (e12 : h' 12 = h 12) {w t : Int} : asP h' w t ↔ asP h w t := by
  unfold asP isK
  rw [e10, e11, e12]
set_option maxRecDepth 100000 in
set_option maxHeartbeats 4000000 in
theorem t_Near_pairsFrom (h : HP) (t w : Int) (ht : 0 ≤ t ∧ t ≤ 4) (hw : 0 ≤ w ∧ w ≤ 10) : trI mNear_pairsFrom [.inr (.inr 33), .inl t, .inl w] SH0 h (fun r h' => h' = h ∧ r = h 35 (11 * t.toNat + w.toNat)) := by
  refine startI [some (.inr (.inr 33)), some (.inl t), some (.inl w)] mNear_pairsFrom_c (go [9999] 400 (k := ?_))
  simp (config := {maxSteps := 1000000}) only [↓pI_c, ↓pR_c, ↓pJ_c, ↓pV_c, ↓popN_0, ↓popN_s, ↓lI_0, ↓lR_0, ↓lJ_0, ↓lI_s, ↓lR_s, ↓lJ_s, ↓okSt_0, ↓okSt_I, ↓okSt_R, ↓okSt_N, ↓okSt_s, ↓rtI_s, ↓rtV_n, ↓brP_t, ↓brP_f, ↓sNear_pairsFrom_0, ↓sNear_pairsFrom_1, ↓rf_33_2, ↓sNear_pairsFrom_4, ↓sNear_pairsFrom_5, ↓sNear_pairsFrom_7, ↓sNear_pairsFrom_8, ↓sNear_pairsFrom_9, ↓sNear_pairsFrom_10, ↓sNear_pairsFrom_11, ↓ln_35, List.set_cons_zero, List.set_cons_succ, List.length_cons, List.length_nil, List.contains_cons, List.contains_nil, cat1, brP_d, true_and, and_true, not_false_eq_true, not_true_eq_false, if_true, if_false, Bool.or_false, Bool.false_or, Bool.or_true, Bool.true_or, Bool.false_eq_true, Bool.or_self, false_implies, true_implies, forall_const, and_self, implies_true, true_or, or_true, or_false, false_or, or_self, Classical.not_not, Int.reduceAdd, Int.reduceSub, Int.reduceMul, Int.reduceNeg, Int.reduceToNat, Int.reduceLT, Int.reduceLE, Int.reduceEq, Int.reduceNe, Int.reduceNatCast', Nat.reduceAdd, Nat.reduceSub, Nat.reduceLeDiff, Nat.reduceLT, Nat.reduceEqDiff, Nat.reduceBEq, reduceIte, nx_w, nx_c, up_n, up_s, up_f, ne_eq, Nat.reduceEqDiff, Option.some.injEq, Prod.mk.injEq, exists_eq_left', reduceCtorEq]
  rw [wr_id (x := t * 11) (by omega) (by omega), wr_id (x := t * 11 + w) (by omega) (by omega), show (t * 11 + w).toNat = 11 * t.toNat + w.toNat by omega]
  exact ⟨by omega, rfl⟩
set_option maxRecDepth 100000 in
set_option maxHeartbeats 4000000 in
theorem t_Near_isPair (g h : HP) (hC : CI g) (hk : KF g h) (hr : rdG g h) (r t w : Int) (hr' : 0 ≤ r ∧ r < 40) (ht : 0 ≤ t ∧ t < 4) (hw : 0 ≤ w ∧ w + 1 < mN g) : trI mNear_isPair [.inr (.inr 33), .inl r, .inl t, .inl w] SH0 h (fun x h' => h' = h ∧ bP (prQ g r.toNat t.toNat w.toNat) x) := by
  have hn := mN_in hC.2.2.2.2
  have e26 := (hr.2.1 (w.toNat + 1) (by omega)).2
  refine startI [some (.inr (.inr 33)), some (.inl r), some (.inl t), some (.inl w)] mNear_isPair_c (go [9999] 400 (k := ?_))
  simp (config := {maxSteps := 1000000}) only [↓pI_c, ↓pR_c, ↓pJ_c, ↓pV_c, ↓popN_0, ↓popN_s, ↓lI_0, ↓lR_0, ↓lJ_0, ↓lI_s, ↓lR_s, ↓lJ_s, ↓okSt_0, ↓okSt_I, ↓okSt_R, ↓okSt_N, ↓okSt_s, ↓rtI_s, ↓rtV_n, ↓brP_t, ↓brP_f, ↓sNear_isPair_0, ↓sNear_isPair_1, ↓rf_33_0, ↓sNear_isPair_4, ↓rf_24_2, ↓sNear_isPair_7, ↓sNear_isPair_8, ↓sNear_isPair_11, ↓rf_24_5, ↓sNear_isPair_14, ↓sNear_isPair_15, ↓sNear_isPair_16, ↓sNear_isPair_17, ↓sNear_isPair_18, ↓sNear_isPair_19, ↓sNear_isPair_22, ↓rf_24_3, ↓sNear_isPair_25, ↓sNear_isPair_26, ↓sNear_isPair_27, ↓sNear_isPair_30, ↓sNear_isPair_33, ↓ln_26, List.set_cons_zero, List.set_cons_succ, List.length_cons, List.length_nil, List.contains_cons, List.contains_nil, cat1, brP_d, true_and, and_true, not_false_eq_true, not_true_eq_false, if_true, if_false, Bool.or_false, Bool.false_or, Bool.or_true, Bool.true_or, Bool.false_eq_true, Bool.or_self, false_implies, true_implies, forall_const, and_self, implies_true, true_or, or_true, or_false, false_or, or_self, Classical.not_not, Int.reduceAdd, Int.reduceSub, Int.reduceMul, Int.reduceNeg, Int.reduceToNat, Int.reduceLT, Int.reduceLE, Int.reduceEq, Int.reduceNe, Int.reduceNatCast', Nat.reduceAdd, Nat.reduceSub, Nat.reduceLeDiff, Nat.reduceLT, Nat.reduceEqDiff, Nat.reduceBEq, reduceIte, nx_w, nx_c, up_n, up_s, up_f, ne_eq, Nat.reduceEqDiff, Option.some.injEq, Prod.mk.injEq, exists_eq_left', reduceCtorEq, ob_15, ob_10]
  rw [wr_id (x := w + 1) (by omega) (by omega), show (w + 1).toNat = w.toNat + 1 by omega]
  refine ⟨by omega, ?_⟩
  refine use_p (t_Rules_tokenAt h r t hr' ht) ?_
  refine trI_use (t_Words_isAs h _ _ (by rw [hk 10 (by decide)]; exact ⟨hC.1.1, hC.1.2.1⟩)) ?_
  rintro x h' ⟨rfl, hx⟩
  rw [asP_congr (hk 10 (by decide)) (hk 11 (by decide)) (hk 12 (by decide)), e26, hk 18 (by decide)] at hx
  exact ⟨by rcases hx with z | z; exact Or.inr z.1; exact Or.inl z.1, rfl, hx⟩
theorem ifmax (x y : Int) : (if x < y then y else x) = max x y := by
  rw [Int.max_def]
  split <;> split <;> omega
def cpP (g h0 h : HP) (r : Nat) (t w : Int) : Prop := (∀ a, a ≠ 35 → h a = h0 a) ∧ ∀ t' w' : Nat, (t' : Int) ≤ g 17 r → (w' : Int) ≤ mN g - 1 → (t < t' ∨ (t = t' ∧ w < w')) → h 35 (11 * t' + w') = clG g r t' w'
set_option maxRecDepth 100000 in
set_option maxHeartbeats 4000000 in
theorem c2_Near_countPairs (g h0 : HP) (hC : CI g) (hk : KF g h0) (hr : rdG g h0) (ha : allK g) (r : Nat) (hr' : (r : Int) < g 15 3) (t : Int) (ht : 0 ≤ t ∧ t ≤ g 17 r) (P : Option AV → HP → Prop) (hX : ∀ h x5 x6, cpP g h0 h r (t - 1) (mN g - 1) → Wn Z4 mNear_countPairs SH0 26 [some (.inr (.inr 33)), some (.inl r), some (.inl (g 17 r)), some (.inl (mN g - 1)), some (.inl (t - 1)), x5, x6] [] h P) : ∀ (d : Nat) (w : Int) (h : HP) (x6 : Option AV), w + 1 < d → -1 ≤ w → w ≤ mN g - 1 → cpP g h0 h r t w → Wn Z4 mNear_countPairs SH0 34 [some (.inr (.inr 33)), some (.inl r), some (.inl (g 17 r)), some (.inl (mN g - 1)), some (.inl t), some (.inl w), x6] [] h P := by
  have hR := hC.2.2.1
  have h40 := hR.2.1
  have h4 := hR.2.2.2 r (by omega)
  have hn := mN_in hC.2.2.2.2
  have hpos := ha.1
  intro d
  induction d with
  | zero => intro w h x6 h1 h2; omega
  | succ d ih =>
    intro w h x6 h1 h2 h3 h4'
    obtain ⟨f1, f2⟩ := h4'
    have hk' : KF g h := fun a ha => by rw [f1 a (by omega)]; exact hk a ha
    have hrd' : rdG g h := by
      unfold rdG at *
      rw [f1 24 (by decide), f1 25 (by decide), f1 26 (by decide)]
      exact hr
    have nxt : ∀ x y6, 0 ≤ w → x = clG g r t.toNat w.toNat → Wn Z4 mNear_countPairs SH0 34 [some (.inr (.inr 33)), some (.inl r), some (.inl (g 17 r)), some (.inl (mN g - 1)), some (.inl t), some (.inl (w - 1)), y6] [] (up h 35 (t * 11 + w).toNat x) P := by
      intro x y6 h0w hx
      refine ih (w - 1) _ y6 (by omega) (by omega) (by omega) ⟨fun a a1 => by rw [up_ne a1]; exact f1 a a1, fun t' w' q1 q2 q3 => ?_⟩
      rw [up_a]
      by_cases e : 11 * t' + w' = (t * 11 + w).toNat
      · have e1 : t' = t.toNat := by omega
        have e2 : w' = w.toNat := by omega
        rw [if_pos e, hx, e1, e2]
      · rw [if_neg e]
        exact f2 t' w' q1 q2 (by omega)
    refine go [34,26] 400 (k := ?_)
    simp (config := {maxSteps := 1000000}) only [↓pI_c, ↓pR_c, ↓pJ_c, ↓pV_c, ↓popN_0, ↓popN_s, ↓lI_0, ↓lR_0, ↓lJ_0, ↓lI_s, ↓lR_s, ↓lJ_s, ↓okSt_0, ↓okSt_I, ↓okSt_R, ↓okSt_N, ↓okSt_s, ↓rtI_s, ↓rtV_n, ↓brP_t, ↓brP_f, ↓sNear_countPairs_0, ↓sNear_countPairs_1, ↓rf_33_0, ↓sNear_countPairs_4, ↓rf_24_3, ↓sNear_countPairs_7, ↓rf_15_1, ↓sNear_countPairs_10, ↓sNear_countPairs_11, ↓sNear_countPairs_12, ↓sNear_countPairs_13, ↓sNear_countPairs_14, ↓sNear_countPairs_17, ↓rf_24_6, ↓sNear_countPairs_20, ↓sNear_countPairs_21, ↓sNear_countPairs_22, ↓sNear_countPairs_23, ↓sNear_countPairs_24, ↓sNear_countPairs_26, ↓sNear_countPairs_28, ↓sNear_countPairs_31, ↓sNear_countPairs_32, ↓sNear_countPairs_34, ↓sNear_countPairs_36, ↓sNear_countPairs_39, ↓sNear_countPairs_40, ↓sNear_countPairs_42, ↓sNear_countPairs_44, ↓sNear_countPairs_45, ↓sNear_countPairs_48, ↓sNear_countPairs_50, ↓sNear_countPairs_51, ↓sNear_countPairs_54, ↓sNear_countPairs_55, ↓sNear_countPairs_57, ↓sNear_countPairs_58, ↓sNear_countPairs_59, ↓sNear_countPairs_61, ↓sNear_countPairs_64, ↓sNear_countPairs_65, ↓sNear_countPairs_67, ↓sNear_countPairs_69, ↓sNear_countPairs_70, ↓sNear_countPairs_71, ↓sNear_countPairs_74, ↓sNear_countPairs_77, ↓sNear_countPairs_79, ↓sNear_countPairs_80, ↓sNear_countPairs_81, ↓sNear_countPairs_83, ↓sNear_countPairs_85, ↓sNear_countPairs_88, ↓sNear_countPairs_91, ↓sNear_countPairs_93, ↓sNear_countPairs_94, ↓sNear_countPairs_95, ↓sNear_countPairs_97, ↓sNear_countPairs_98, ↓sNear_countPairs_99, ↓sNear_countPairs_101, ↓sNear_countPairs_102, ↓sNear_countPairs_103, ↓sNear_countPairs_106, ↓sNear_countPairs_107, ↓sNear_countPairs_110, ↓sNear_countPairs_112, ↓sNear_countPairs_113, ↓rf_33_2, ↓sNear_countPairs_116, ↓sNear_countPairs_118, ↓sNear_countPairs_120, ↓sNear_countPairs_121, ↓sNear_countPairs_123, ↓sNear_countPairs_124, ↓sNear_countPairs_126, ↓sNear_countPairs_127, ↓sNear_countPairs_130, ↓sNear_countPairs_133, ↓sNear_countPairs_136, ↓sNear_countPairs_139, ↓ln_17, ↓ln_35, List.set_cons_zero, List.set_cons_succ, List.length_cons, List.length_nil, List.contains_cons, List.contains_nil, cat1, brP_d, true_and, and_true, not_false_eq_true, not_true_eq_false, if_true, if_false, Bool.or_false, Bool.false_or, Bool.or_true, Bool.true_or, Bool.false_eq_true, Bool.or_self, false_implies, true_implies, forall_const, and_self, implies_true, true_or, or_true, or_false, false_or, or_self, Classical.not_not, Int.reduceAdd, Int.reduceSub, Int.reduceMul, Int.reduceNeg, Int.reduceToNat, Int.reduceLT, Int.reduceLE, Int.reduceEq, Int.reduceNe, Int.reduceNatCast', Nat.reduceAdd, Nat.reduceSub, Nat.reduceLeDiff, Nat.reduceLT, Nat.reduceEqDiff, Nat.reduceBEq, reduceIte, nx_w, nx_c, up_n, up_s, up_f, ne_eq, Nat.reduceEqDiff, Option.some.injEq, Prod.mk.injEq, exists_eq_left', reduceCtorEq, ob_33, ar_17]
    simp only [wr_id (x := t + -1) (by omega) (by omega), wr_id (x := w + -1) (by omega) (by omega), wr_id (x := t * 11) (by omega) (by omega), wr_id (x := t * 11 + w) (by omega) (by omega), wr_id (x := t + 1) (by omega) (by omega), wr_id (x := w + 1) (by omega) (by omega), ifmax]
    refine ⟨fun c1 => hX h _ _ ⟨f1, fun t' w' q1 q2 q3 => f2 t' w' q1 q2 (by omega)⟩, fun c1 => ⟨fun c2 => ⟨by omega, nxt 0 _ (by omega) (by unfold clG; rw [cl_T (by omega)])⟩, fun c2 => ⟨fun c3 => ⟨by omega, nxt 0 _ (by omega) (by unfold clG; rw [cl_B (by omega)])⟩, fun c3 => ?_⟩⟩⟩
    have b1 : h 35 (11 * (t.toNat + 1) + w.toNat) = clG g r (t.toNat + 1) w.toNat := f2 _ _ (by push_cast; omega) (by omega) (by push_cast; omega)
    have b2 : h 35 (11 * t.toNat + (w.toNat + 1)) = clG g r t.toNat (w.toNat + 1) := f2 _ _ (by omega) (by push_cast; omega) (by push_cast; omega)
    have b3 : h 35 (11 * (t.toNat + 1) + (w.toNat + 1)) = clG g r (t.toNat + 1) (w.toNat + 1) := f2 _ _ (by push_cast; omega) (by push_cast; omega) (by push_cast; omega)
    have i3 : 0 ≤ clG g r (t.toNat + 1) (w.toNat + 1) ∧ clG g r (t.toNat + 1) (w.toNat + 1) ≤ (g 17 r).toNat := cl_in
    have hrec := cl_s (Q := prQ g r) (T := (g 17 r).toNat) (B := (mN g - 1).toNat) (t := t.toNat) (w := w.toNat) (by omega) (by omega)
    refine use_p (t_Near_pairsFrom h _ _ (by omega) (by omega)) ?_
    refine use_p (t_Near_pairsFrom h _ _ (by omega) (by omega)) ?_
    rw [show (t + 1).toNat = t.toNat + 1 by omega, show (w + 1).toNat = w.toNat + 1 by omega, b1, b2]
    have ib := t_Near_isPair g h hC hk' hrd' r t w (by omega) (by omega) (by omega)
    rw [show ((r : Int)).toNat = r by omega] at ib
    refine use_b ib (fun hc => ?_) (fun hc => ?_)
    · simp only [one_ne, not_false_eq_true, true_implies, false_implies, true_and, and_true]
      refine use_p (t_Near_pairsFrom h _ _ (by omega) (by omega)) ?_
      rw [show (t + 1).toNat = t.toNat + 1 by omega, show (w + 1).toNat = w.toNat + 1 by omega, b3, wr_id (x := 1 + clG g r (t.toNat + 1) (w.toNat + 1)) (by omega) (by omega)]
      refine ⟨by omega, nxt _ _ (by omega) ?_⟩
      rcases hrec with ⟨_, e⟩ | ⟨e, _⟩
      · exact e.symm
      · exact absurd hc e
    · simp only [not_true_eq_false, true_implies, false_implies, true_and, and_true]
      refine ⟨by omega, nxt _ _ (by omega) ?_⟩
      rcases hrec with ⟨e, _⟩ | ⟨_, e⟩
      · exact absurd e hc
      · exact e.symm
set_option maxRecDepth 100000 in
set_option maxHeartbeats 4000000 in
theorem c1_Near_countPairs (g h0 : HP) (hC : CI g) (hk : KF g h0) (hr : rdG g h0) (ha : allK g) (r : Nat) (hr' : (r : Int) < g 15 3) : ∀ (d : Nat) (t : Int) (h : HP) (x5 x6 : Option AV), t + 1 < d → -1 ≤ t → t ≤ g 17 r → cpP g h0 h r t (mN g - 1) → Wn Z4 mNear_countPairs SH0 26 [some (.inr (.inr 33)), some (.inl r), some (.inl (g 17 r)), some (.inl (mN g - 1)), some (.inl t), x5, x6] [] h (rtV (fun h' => cpP g h0 h' r (-1) (mN g - 1))) := by
  have hn := mN_in hC.2.2.2.2
  have hpos := ha.1
  intro d
  induction d with
  | zero => intro t h x5 x6 h1 h2; omega
  | succ d ih =>
    intro t h x5 x6 h1 h2 h3 h4
    refine go [34] 400 (k := ?_)
    simp (config := {maxSteps := 1000000}) only [↓pI_c, ↓pR_c, ↓pJ_c, ↓pV_c, ↓popN_0, ↓popN_s, ↓lI_0, ↓lR_0, ↓lJ_0, ↓lI_s, ↓lR_s, ↓lJ_s, ↓okSt_0, ↓okSt_I, ↓okSt_R, ↓okSt_N, ↓okSt_s, ↓rtI_s, ↓rtV_n, ↓brP_t, ↓brP_f, ↓sNear_countPairs_0, ↓sNear_countPairs_1, ↓rf_33_0, ↓sNear_countPairs_4, ↓rf_24_3, ↓sNear_countPairs_7, ↓rf_15_1, ↓sNear_countPairs_10, ↓sNear_countPairs_11, ↓sNear_countPairs_12, ↓sNear_countPairs_13, ↓sNear_countPairs_14, ↓sNear_countPairs_17, ↓rf_24_6, ↓sNear_countPairs_20, ↓sNear_countPairs_21, ↓sNear_countPairs_22, ↓sNear_countPairs_23, ↓sNear_countPairs_24, ↓sNear_countPairs_26, ↓sNear_countPairs_28, ↓sNear_countPairs_31, ↓sNear_countPairs_32, ↓sNear_countPairs_34, ↓sNear_countPairs_36, ↓sNear_countPairs_39, ↓sNear_countPairs_40, ↓sNear_countPairs_42, ↓sNear_countPairs_44, ↓sNear_countPairs_45, ↓sNear_countPairs_48, ↓sNear_countPairs_50, ↓sNear_countPairs_51, ↓sNear_countPairs_54, ↓sNear_countPairs_55, ↓sNear_countPairs_57, ↓sNear_countPairs_58, ↓sNear_countPairs_59, ↓sNear_countPairs_61, ↓sNear_countPairs_64, ↓sNear_countPairs_65, ↓sNear_countPairs_67, ↓sNear_countPairs_69, ↓sNear_countPairs_70, ↓sNear_countPairs_71, ↓sNear_countPairs_74, ↓sNear_countPairs_77, ↓sNear_countPairs_79, ↓sNear_countPairs_80, ↓sNear_countPairs_81, ↓sNear_countPairs_83, ↓sNear_countPairs_85, ↓sNear_countPairs_88, ↓sNear_countPairs_91, ↓sNear_countPairs_93, ↓sNear_countPairs_94, ↓sNear_countPairs_95, ↓sNear_countPairs_97, ↓sNear_countPairs_98, ↓sNear_countPairs_99, ↓sNear_countPairs_101, ↓sNear_countPairs_102, ↓sNear_countPairs_103, ↓sNear_countPairs_106, ↓sNear_countPairs_107, ↓sNear_countPairs_110, ↓sNear_countPairs_112, ↓sNear_countPairs_113, ↓rf_33_2, ↓sNear_countPairs_116, ↓sNear_countPairs_118, ↓sNear_countPairs_120, ↓sNear_countPairs_121, ↓sNear_countPairs_123, ↓sNear_countPairs_124, ↓sNear_countPairs_126, ↓sNear_countPairs_127, ↓sNear_countPairs_130, ↓sNear_countPairs_133, ↓sNear_countPairs_136, ↓sNear_countPairs_139, ↓ln_17, ↓ln_35, List.set_cons_zero, List.set_cons_succ, List.length_cons, List.length_nil, List.contains_cons, List.contains_nil, cat1, brP_d, true_and, and_true, not_false_eq_true, not_true_eq_false, if_true, if_false, Bool.or_false, Bool.false_or, Bool.or_true, Bool.true_or, Bool.false_eq_true, Bool.or_self, false_implies, true_implies, forall_const, and_self, implies_true, true_or, or_true, or_false, false_or, or_self, Classical.not_not, Int.reduceAdd, Int.reduceSub, Int.reduceMul, Int.reduceNeg, Int.reduceToNat, Int.reduceLT, Int.reduceLE, Int.reduceEq, Int.reduceNe, Int.reduceNatCast', Nat.reduceAdd, Nat.reduceSub, Nat.reduceLeDiff, Nat.reduceLT, Nat.reduceEqDiff, Nat.reduceBEq, reduceIte, nx_w, nx_c, up_n, up_s, up_f, ne_eq, Nat.reduceEqDiff, Option.some.injEq, Prod.mk.injEq, exists_eq_left', reduceCtorEq, ob_33, ar_17]
    refine ⟨fun c1 => ?_, fun c1 => c2_Near_countPairs g h0 hC hk hr ha r hr' t (by omega) _ (fun h' y5 y6 hf => ih (t - 1) h' _ _ (by omega) (by omega) (by omega) hf) ((mN g).toNat + 1) (mN g - 1) h _ (by omega) (by omega) (by omega) h4⟩
    rw [show t = -1 by omega] at h4
    exact h4
set_option maxRecDepth 100000 in
set_option maxHeartbeats 4000000 in
theorem t_Near_countPairs (g h : HP) (hC : CI g) (hk : KF g h) (hr : rdG g h) (ha : allK g) (r : Nat) (hr' : (r : Int) < g 15 3) : trV mNear_countPairs [.inr (.inr 33), .inl r] SH0 h (fun h' => cpP g h h' r (-1) (mN g - 1)) := by
  have hR := hC.2.2.1
  have h40 := hR.2.1
  have h4 := hR.2.2.2 r (by omega)
  have hn := mN_in hC.2.2.2.2
  have hpos := ha.1
  have e17 : h 17 = g 17 := hk 17 (by decide)
  have e6 := hr.1
  refine startV [some (.inr (.inr 33)), some (.inl r), none, none, none, none, none] mNear_countPairs_c (go [26] 400 (k := ?_))
  simp (config := {maxSteps := 1000000}) only [↓pI_c, ↓pR_c, ↓pJ_c, ↓pV_c, ↓popN_0, ↓popN_s, ↓lI_0, ↓lR_0, ↓lJ_0, ↓lI_s, ↓lR_s, ↓lJ_s, ↓okSt_0, ↓okSt_I, ↓okSt_R, ↓okSt_N, ↓okSt_s, ↓rtI_s, ↓rtV_n, ↓brP_t, ↓brP_f, ↓sNear_countPairs_0, ↓sNear_countPairs_1, ↓rf_33_0, ↓sNear_countPairs_4, ↓rf_24_3, ↓sNear_countPairs_7, ↓rf_15_1, ↓sNear_countPairs_10, ↓sNear_countPairs_11, ↓sNear_countPairs_12, ↓sNear_countPairs_13, ↓sNear_countPairs_14, ↓sNear_countPairs_17, ↓rf_24_6, ↓sNear_countPairs_20, ↓sNear_countPairs_21, ↓sNear_countPairs_22, ↓sNear_countPairs_23, ↓sNear_countPairs_24, ↓sNear_countPairs_26, ↓sNear_countPairs_28, ↓sNear_countPairs_31, ↓sNear_countPairs_32, ↓sNear_countPairs_34, ↓sNear_countPairs_36, ↓sNear_countPairs_39, ↓sNear_countPairs_40, ↓sNear_countPairs_42, ↓sNear_countPairs_44, ↓sNear_countPairs_45, ↓sNear_countPairs_48, ↓sNear_countPairs_50, ↓sNear_countPairs_51, ↓sNear_countPairs_54, ↓sNear_countPairs_55, ↓sNear_countPairs_57, ↓sNear_countPairs_58, ↓sNear_countPairs_59, ↓sNear_countPairs_61, ↓sNear_countPairs_64, ↓sNear_countPairs_65, ↓sNear_countPairs_67, ↓sNear_countPairs_69, ↓sNear_countPairs_70, ↓sNear_countPairs_71, ↓sNear_countPairs_74, ↓sNear_countPairs_77, ↓sNear_countPairs_79, ↓sNear_countPairs_80, ↓sNear_countPairs_81, ↓sNear_countPairs_83, ↓sNear_countPairs_85, ↓sNear_countPairs_88, ↓sNear_countPairs_91, ↓sNear_countPairs_93, ↓sNear_countPairs_94, ↓sNear_countPairs_95, ↓sNear_countPairs_97, ↓sNear_countPairs_98, ↓sNear_countPairs_99, ↓sNear_countPairs_101, ↓sNear_countPairs_102, ↓sNear_countPairs_103, ↓sNear_countPairs_106, ↓sNear_countPairs_107, ↓sNear_countPairs_110, ↓sNear_countPairs_112, ↓sNear_countPairs_113, ↓rf_33_2, ↓sNear_countPairs_116, ↓sNear_countPairs_118, ↓sNear_countPairs_120, ↓sNear_countPairs_121, ↓sNear_countPairs_123, ↓sNear_countPairs_124, ↓sNear_countPairs_126, ↓sNear_countPairs_127, ↓sNear_countPairs_130, ↓sNear_countPairs_133, ↓sNear_countPairs_136, ↓sNear_countPairs_139, ↓ln_17, ↓ln_35, List.set_cons_zero, List.set_cons_succ, List.length_cons, List.length_nil, List.contains_cons, List.contains_nil, cat1, brP_d, true_and, and_true, not_false_eq_true, not_true_eq_false, if_true, if_false, Bool.or_false, Bool.false_or, Bool.or_true, Bool.true_or, Bool.false_eq_true, Bool.or_self, false_implies, true_implies, forall_const, and_self, implies_true, true_or, or_true, or_false, false_or, or_self, Classical.not_not, Int.reduceAdd, Int.reduceSub, Int.reduceMul, Int.reduceNeg, Int.reduceToNat, Int.reduceLT, Int.reduceLE, Int.reduceEq, Int.reduceNe, Int.reduceNatCast', Nat.reduceAdd, Nat.reduceSub, Nat.reduceLeDiff, Nat.reduceLT, Nat.reduceEqDiff, Nat.reduceBEq, reduceIte, nx_w, nx_c, up_n, up_s, up_f, ne_eq, Nat.reduceEqDiff, Option.some.injEq, Prod.mk.injEq, exists_eq_left', reduceCtorEq, ob_33, ar_17, e17, e6]
  rw [show ((r : Int)).toNat = r by omega, wr_id (x := mN g - 1) (by omega) (by omega)]
  exact ⟨by omega, c1_Near_countPairs g h hC hk hr ha r hr' ((g 17 r).toNat + 2) (g 17 r) h _ _ (by omega) (by omega) (by omega) ⟨fun _ _ => rfl, fun t' w' q1 q2 q3 => by omega⟩⟩
def verbR (g : HP) (r : Nat) : Prop := g 16 r = mW g 0
def fnF (h0 h : HP) : Prop := (∀ a, a ≠ 33 → a ≠ 34 → a ≠ 35 → h a = h0 a) ∧ ∀ b, b < 3 → h 33 b = h0 33 b
theorem rdG.fn {g h h' : HP} (hp : fnF h h') (hr : rdG g h) : rdG g h' := by
  unfold rdG at *
  rw [hp.1 24 (by decide) (by decide) (by decide), hp.1 25 (by decide) (by decide) (by decide), hp.1 26 (by decide) (by decide) (by decide)]
  exact hr
theorem fnF.kf {a b : HP} (h1 : fnF a b) : KF a b := fun k hk => h1.1 k (by omega) (by omega) (by omega)
theorem fnF.rf {h : HP} : fnF h h := ⟨fun _ _ _ _ => rfl, fun _ _ => rfl⟩
theorem fnF.tr {a b c : HP} (h1 : fnF a b) (h2 : fnF b c) : fnF a c := ⟨fun k a1 a2 a3 => (h2.1 k a1 a2 a3).trans (h1.1 k a1 a2 a3), fun k hk => (h2.2 k hk).trans (h1.2 k hk)⟩
theorem fnF.cp {g h h' : HP} {r : Nat} {t w : Int} (hp : cpP g h h' r t w) : fnF h h' := ⟨fun a _ _ a3 => hp.1 a a3, fun b _ => by rw [hp.1 33 (by decide)]⟩
theorem fnF.up {h h' : HP} (h1 : fnF h h') {j : Nat} {x : Int} (hj : 3 ≤ j) : fnF h (up h' 33 j x) := ⟨fun a a1 a2 a3 => by rw [up_ne a1]; exact h1.1 a a1 a2 a3, fun b hb => by rw [up_f (by omega)]; exact h1.2 b hb⟩
def qFR (g h0 h' : HP) : Prop := fnF h0 h' ∧ h' 33 4 = h0 33 4 ∧ h' 33 5 = h0 33 5 ∧ ∃ l, fmP (verbR g) (offG g) (g 15 3) (h' 33 3) l
set_option maxRecDepth 100000 in
set_option maxHeartbeats 4000000 in
theorem l_Near_findRule (g h0 : HP) (hC : CI g) (hk : KF g h0) (hr : rdG g h0) (ha : allK g) : ∀ (d : Nat) (r l : Int) (h : HP) (x3 : Option AV), g 15 3 - r < d → 0 ≤ r → r ≤ g 15 3 → fnF h0 h → h 33 4 = h0 33 4 → h 33 5 = h0 33 5 → fmP (verbR g) (offG g) r (h 33 3) l → Wn Z4 mNear_findRule SH0 4 [some (.inr (.inr 33)), some (.inl l), some (.inl r), x3] [] h (rtV (qFR g h0)) := by
  have hR := hC.2.2.1
  have h40 := hR.2.1
  have hn := mN_in hC.2.2.2.2
  have hpos := ha.1
  intro d
  induction d with
  | zero => intro r l h x3 h1 h2 h3; omega
  | succ d ih =>
    intro r l h x3 h1 h2 h3 h4 f4 f5 h5
    have hk' := hk.tr h4.kf
    have hr' := hr.fn h4
    have e15 : h 15 = g 15 := hk' 15 (by decide)
    have e16 : h 16 = g 16 := hk' 16 (by decide)
    have e26 := (hr'.2.1 0 (by omega)).2
    obtain ⟨n1, n2, n3⟩ := fmP_s h2 h5
    have er : ((r.toNat : Nat) : Int) = r := by omega
    refine go [4] 400 (k := ?_)
    simp (config := {maxSteps := 1000000}) only [↓pI_c, ↓pR_c, ↓pJ_c, ↓pV_c, ↓popN_0, ↓popN_s, ↓lI_0, ↓lR_0, ↓lJ_0, ↓lI_s, ↓lR_s, ↓lJ_s, ↓okSt_0, ↓okSt_I, ↓okSt_R, ↓okSt_N, ↓okSt_s, ↓rtI_s, ↓rtV_n, ↓brP_t, ↓brP_f, ↓sNear_findRule_0, ↓sNear_findRule_1, ↓sNear_findRule_2, ↓sNear_findRule_3, ↓sNear_findRule_4, ↓sNear_findRule_5, ↓sNear_findRule_6, ↓rf_33_0, ↓sNear_findRule_9, ↓rf_24_3, ↓sNear_findRule_12, ↓rf_15_3, ↓sNear_findRule_15, ↓sNear_findRule_18, ↓sNear_findRule_19, ↓sNear_findRule_22, ↓sNear_findRule_25, ↓rf_15_0, ↓sNear_findRule_28, ↓sNear_findRule_29, ↓sNear_findRule_30, ↓sNear_findRule_31, ↓sNear_findRule_34, ↓rf_24_5, ↓sNear_findRule_37, ↓sNear_findRule_38, ↓sNear_findRule_39, ↓sNear_findRule_42, ↓sNear_findRule_45, ↓sNear_findRule_46, ↓sNear_findRule_47, ↓sNear_findRule_50, ↓sNear_findRule_51, ↓sNear_findRule_54, ↓sNear_findRule_57, ↓rf_15_1, ↓sNear_findRule_60, ↓sNear_findRule_61, ↓sNear_findRule_62, ↓sNear_findRule_63, ↓sNear_findRule_66, ↓rf_24_6, ↓sNear_findRule_69, ↓sNear_findRule_70, ↓sNear_findRule_71, ↓sNear_findRule_72, ↓sNear_findRule_73, ↓sNear_findRule_74, ↓sNear_findRule_75, ↓sNear_findRule_76, ↓sNear_findRule_79, ↓sNear_findRule_80, ↓sNear_findRule_81, ↓sNear_findRule_82, ↓sNear_findRule_83, ↓rf_33_3, ↓sNear_findRule_86, ↓sNear_findRule_87, ↓sNear_findRule_90, ↓sNear_findRule_91, ↓sNear_findRule_92, ↓sNear_findRule_95, ↓sNear_findRule_96, ↓sNear_findRule_97, ↓sNear_findRule_100, ↓sNear_findRule_101, ↓sNear_findRule_102, ↓sNear_findRule_105, ↓sNear_findRule_108, ↓ln_16, ↓ln_17, ↓ln_26, List.set_cons_zero, List.set_cons_succ, List.length_cons, List.length_nil, List.contains_cons, List.contains_nil, cat1, brP_d, true_and, and_true, not_false_eq_true, not_true_eq_false, if_true, if_false, Bool.or_false, Bool.false_or, Bool.or_true, Bool.true_or, Bool.false_eq_true, Bool.or_self, false_implies, true_implies, forall_const, and_self, implies_true, true_or, or_true, or_false, false_or, or_self, Classical.not_not, Int.reduceAdd, Int.reduceSub, Int.reduceMul, Int.reduceNeg, Int.reduceToNat, Int.reduceLT, Int.reduceLE, Int.reduceEq, Int.reduceNe, Int.reduceNatCast', Nat.reduceAdd, Nat.reduceSub, Nat.reduceLeDiff, Nat.reduceLT, Nat.reduceEqDiff, Nat.reduceBEq, reduceIte, nx_w, nx_c, up_n, up_s, up_f, ne_eq, Nat.reduceEqDiff, Option.some.injEq, Prod.mk.injEq, exists_eq_left', reduceCtorEq, ob_33, e15, e16, e26]
    rw [wr_id (x := r + 1) (by omega) (by omega)]
    refine ⟨fun c1 => ⟨h4, f4, f5, l, by rw [show g 15 3 = r by omega]; exact h5⟩, fun c1 => ⟨by omega, fun c2 => ?_, fun c2 => ih (r + 1) l h _ (by omega) (by omega) (by omega) h4 f4 f5 (n1 c2)⟩⟩
    have cp := t_Near_countPairs g h hC hk' hr' ha r.toNat (by omega)
    rw [er] at cp
    refine trV_use cp ?_
    intro h' hc
    have hf := h4.tr (fnF.cp hc)
    have l4 := hR.2.2.2 r.toNat (by omega)
    have g17 : h' 17 r.toNat = g 17 r.toNat := by rw [hc.1 17 (by decide), hk' 17 (by decide)]
    have g6 : h' 24 6 = mN g := by rw [hc.1 24 (by decide)]; exact hr'.1
    have g33 : h' 33 = h 33 := hc.1 33 (by decide)
    have e0 : h' 35 (11 * 0 + 0) = clG g r.toNat 0 0 := hc.2 0 0 (by push_cast; omega) (by push_cast; omega) (Or.inl (by decide))
    have i0 : 0 ≤ clG g r.toNat 0 0 ∧ clG g r.toNat 0 0 ≤ (g 17 r.toNat).toNat := cl_in
    refine ⟨by omega, ?_⟩
    refine use_p (t_Near_pairsFrom h' 0 0 (by omega) (by omega)) ?_
    have eo : g 17 r.toNat + mN g - 1 - 2 * clG g r.toNat 0 0 = offG g r.toNat := rfl
    rw [show (0 : Int).toNat = 0 from rfl, e0, g17, g6, g33, wr_id (x := g 17 r.toNat + mN g) (by omega) (by omega), wr_id (x := g 17 r.toNat + mN g - 1) (by omega) (by omega), wr_id (x := 2 * clG g r.toNat 0 0) (by omega) (by omega), wr_id (x := g 17 r.toNat + mN g - 1 - 2 * clG g r.toNat 0 0) (by omega) (by omega), eo]
    have k4 : h' 33 4 = h0 33 4 := by rw [g33]; exact f4
    have k5 : h' 33 5 = h0 33 5 := by rw [g33]; exact f5
    have yes : (h 33 3 = -1 ∨ offG g r.toNat < l) → Wn Z4 mNear_findRule SH0 4 [some (.inr (.inr 33)), some (.inl (offG g r.toNat)), some (.inl (r + 1)), some (.inl (offG g r.toNat))] [] (up h' 33 3 r) (rtV (qFR g h0)) := fun z => ih (r + 1) _ _ _ (by omega) (by omega) (by omega) (hf.up (by decide)) (by rw [up_f (by decide)]; exact k4) (by rw [up_f (by decide)]; exact k5) (by rw [up_s]; exact n2 c2 z)
    exact ⟨fun c3 => yes (Or.inl c3), fun c3 => ⟨fun c4 => ih (r + 1) l h' _ (by omega) (by omega) (by omega) hf k4 k5 (by rw [g33]; exact n3 c2 c3 (by omega)), fun c4 => yes (Or.inr (by omega))⟩⟩
set_option maxRecDepth 100000 in
set_option maxHeartbeats 4000000 in
theorem t_Near_findRule (g h : HP) (hC : CI g) (hk : KF g h) (hr : rdG g h) (ha : allK g) (h3 : h 33 3 = -1) : trV mNear_findRule [.inr (.inr 33)] SH0 h (qFR g h) := by
  refine startV [some (.inr (.inr 33)), none, none, none] mNear_findRule_c (go [4] 400 (k := ?_))
  simp (config := {maxSteps := 1000000}) only [↓pI_c, ↓pR_c, ↓pJ_c, ↓pV_c, ↓popN_0, ↓popN_s, ↓lI_0, ↓lR_0, ↓lJ_0, ↓lI_s, ↓lR_s, ↓lJ_s, ↓okSt_0, ↓okSt_I, ↓okSt_R, ↓okSt_N, ↓okSt_s, ↓rtI_s, ↓rtV_n, ↓brP_t, ↓brP_f, ↓sNear_findRule_0, ↓sNear_findRule_1, ↓sNear_findRule_2, ↓sNear_findRule_3, ↓sNear_findRule_4, ↓sNear_findRule_5, ↓sNear_findRule_6, ↓rf_33_0, ↓sNear_findRule_9, ↓rf_24_3, ↓sNear_findRule_12, ↓rf_15_3, ↓sNear_findRule_15, ↓sNear_findRule_18, ↓sNear_findRule_19, ↓sNear_findRule_22, ↓sNear_findRule_25, ↓rf_15_0, ↓sNear_findRule_28, ↓sNear_findRule_29, ↓sNear_findRule_30, ↓sNear_findRule_31, ↓sNear_findRule_34, ↓rf_24_5, ↓sNear_findRule_37, ↓sNear_findRule_38, ↓sNear_findRule_39, ↓sNear_findRule_42, ↓sNear_findRule_45, ↓sNear_findRule_46, ↓sNear_findRule_47, ↓sNear_findRule_50, ↓sNear_findRule_51, ↓sNear_findRule_54, ↓sNear_findRule_57, ↓rf_15_1, ↓sNear_findRule_60, ↓sNear_findRule_61, ↓sNear_findRule_62, ↓sNear_findRule_63, ↓sNear_findRule_66, ↓rf_24_6, ↓sNear_findRule_69, ↓sNear_findRule_70, ↓sNear_findRule_71, ↓sNear_findRule_72, ↓sNear_findRule_73, ↓sNear_findRule_74, ↓sNear_findRule_75, ↓sNear_findRule_76, ↓sNear_findRule_79, ↓sNear_findRule_80, ↓sNear_findRule_81, ↓sNear_findRule_82, ↓sNear_findRule_83, ↓rf_33_3, ↓sNear_findRule_86, ↓sNear_findRule_87, ↓sNear_findRule_90, ↓sNear_findRule_91, ↓sNear_findRule_92, ↓sNear_findRule_95, ↓sNear_findRule_96, ↓sNear_findRule_97, ↓sNear_findRule_100, ↓sNear_findRule_101, ↓sNear_findRule_102, ↓sNear_findRule_105, ↓sNear_findRule_108, ↓ln_16, ↓ln_17, ↓ln_26, List.set_cons_zero, List.set_cons_succ, List.length_cons, List.length_nil, List.contains_cons, List.contains_nil, cat1, brP_d, true_and, and_true, not_false_eq_true, not_true_eq_false, if_true, if_false, Bool.or_false, Bool.false_or, Bool.or_true, Bool.true_or, Bool.false_eq_true, Bool.or_self, false_implies, true_implies, forall_const, and_self, implies_true, true_or, or_true, or_false, false_or, or_self, Classical.not_not, Int.reduceAdd, Int.reduceSub, Int.reduceMul, Int.reduceNeg, Int.reduceToNat, Int.reduceLT, Int.reduceLE, Int.reduceEq, Int.reduceNe, Int.reduceNatCast', Nat.reduceAdd, Nat.reduceSub, Nat.reduceLeDiff, Nat.reduceLT, Nat.reduceEqDiff, Nat.reduceBEq, reduceIte, nx_w, nx_c, up_n, up_s, up_f, ne_eq, Nat.reduceEqDiff, Option.some.injEq, Prod.mk.injEq, exists_eq_left', reduceCtorEq, ob_33]
  exact l_Near_findRule g h hC hk hr ha ((g 15 3).toNat + 1) 0 0 h _ (by have := hC.2.2.1.1; omega) (by omega) hC.2.2.1.1 fnF.rf rfl rfl (Or.inl ⟨h3, fun i hi => by omega⟩)
noncomputable def okP (g : HP) (r t : Nat) (left : Int) (w : Nat) : Prop := prQ g r t w ∧ 1 + clG g r (t + 1) (w + 1) = left
def ptR (g : HP) (r t : Nat) (fr left x : Int) : Prop := (x = -1 ∧ ∀ w : Nat, fr ≤ w → (w : Int) < mN g - 1 → ¬ okP g r t left w) ∨ ∃ q : Nat, fr ≤ q ∧ (q : Int) < mN g - 1 ∧ x = q ∧ okP g r t left q ∧ ∀ w : Nat, fr ≤ w → w < q → ¬ okP g r t left w
theorem ptR_uni {g : HP} {r t : Nat} {fr left x x' : Int} (h1 : ptR g r t fr left x) (h2 : ptR g r t fr left x') : x = x' := by
  rcases h1 with ⟨rfl, a⟩ | ⟨q, a1, a2, rfl, a3, a4⟩
  · rcases h2 with ⟨rfl, b⟩ | ⟨q', b1, b2, rfl, b3, b4⟩
    · rfl
    · exact absurd b3 (a q' b1 b2)
  · rcases h2 with ⟨rfl, b⟩ | ⟨q', b1, b2, rfl, b3, b4⟩
    · exact absurd a3 (b q a1 a2)
    · rcases Nat.lt_trichotomy q q' with z | z | z
      · exact absurd a3 (b4 q a1 z)
      · rw [z]
      · exact absurd b3 (a4 q' b1 z)
noncomputable def ptn (g : HP) (r t : Nat) (fr left : Int) : Int := @dite _ (∃ x, ptR g r t fr left x) (Classical.propDecidable _) (fun e => Classical.choose e) (fun _ => -1)
theorem ptn_of {g : HP} {r t : Nat} {fr left x : Int} (h : ptR g r t fr left x) : ptn g r t fr left = x := by
  have e : ∃ x, ptR g r t fr left x := ⟨x, h⟩
  unfold ptn
  rw [dif_pos e]
  exact ptR_uni (Classical.choose_spec e) h
noncomputable def cmN (g : HP) (r t : Nat) (s : Int × Int × Nat × (Nat → Int)) : Int × Int × Nat × (Nat → Int) := @ite _ (ptn g r t s.1 s.2.1 = -1) (Classical.propDecidable _) (s.1, s.2.1, s.2.2.1 + 1, fun i => if i = s.2.2.1 then g 18 (4 * r + t) else s.2.2.2 i) (ptn g r t s.1 s.2.1 + 1, s.2.1 - 1, s.2.2.1, s.2.2.2)
noncomputable def cmS (g : HP) (r : Nat) : Nat → Int × Int × Nat × (Nat → Int)
  | 0 => (0, clG g r 0 0, 0, fun _ => 0)
  | t + 1 => cmN g r t (cmS g r t)
theorem cmN_n {g : HP} {r t : Nat} {s : Int × Int × Nat × (Nat → Int)} (h : ptR g r t s.1 s.2.1 (-1)) : cmN g r t s = (s.1, s.2.1, s.2.2.1 + 1, fun i => if i = s.2.2.1 then g 18 (4 * r + t) else s.2.2.2 i) := by
  unfold cmN
  rw [if_pos (ptn_of h)]
theorem cmN_s {g : HP} {r t : Nat} {s : Int × Int × Nat × (Nat → Int)} {x : Int} (h : ptR g r t s.1 s.2.1 x) (hx : ¬ x = -1) : cmN g r t s = (x + 1, s.2.1 - 1, s.2.2.1, s.2.2.2) := by
  unfold cmN
  rw [ptn_of h, if_neg hx]
def tabC (g h : HP) (r : Nat) : Prop := ∀ t' w' : Nat, (t' : Int) ≤ g 17 r → (w' : Int) ≤ mN g - 1 → h 35 (11 * t' + w') = clG g r t' w'
set_option maxRecDepth 100000 in
set_option maxHeartbeats 4000000 in
theorem l_Near_findPartner (g h : HP) (hC : CI g) (hk : KF g h) (hr : rdG g h) (ha : allK g) (r : Nat) (hr' : (r : Int) < g 15 3) (h3 : h 33 3 = r) (hT : tabC g h r) (t fr left : Int) (ht : 0 ≤ t ∧ t < g 17 r) (hfr : 0 ≤ fr) : ∀ (d : Nat) (w : Int), mN g - w < d → fr ≤ w → w ≤ mN g → (∀ j : Nat, fr ≤ j → (j : Int) < w → ¬ okP g r t.toNat left j) → Wn Z4 mNear_findPartner SH0 3 [some (.inr (.inr 33)), some (.inl t), some (.inl fr), some (.inl left), some (.inl w)] [] h (rtI (fun x h' => h' = h ∧ ptR g r t.toNat fr left x)) := by
  have hR := hC.2.2.1
  have h40 := hR.2.1
  have l4 := hR.2.2.2 r (by omega)
  have hn := mN_in hC.2.2.2.2
  have e6 := hr.1
  intro d
  induction d with
  | zero => intro w h1 h2 h3; omega
  | succ d ih =>
    intro w h1 h2 h4 h5
    have nx : ¬ mN g - 1 ≤ w → ¬ okP g r t.toNat left w.toNat → Wn Z4 mNear_findPartner SH0 3 [some (.inr (.inr 33)), some (.inl t), some (.inl fr), some (.inl left), some (.inl (w + 1))] [] h (rtI (fun x h' => h' = h ∧ ptR g r t.toNat fr left x)) := fun c1 z => ih (w + 1) (by omega) (by omega) (by omega) (fun j j1 j2 => by
      by_cases e : (j : Int) = w
      · rw [show j = w.toNat by omega]; exact z
      · exact h5 j j1 (by omega))
    refine go [3] 400 (k := ?_)
    simp (config := {maxSteps := 1000000}) only [↓pI_c, ↓pR_c, ↓pJ_c, ↓pV_c, ↓popN_0, ↓popN_s, ↓lI_0, ↓lR_0, ↓lJ_0, ↓lI_s, ↓lR_s, ↓lJ_s, ↓okSt_0, ↓okSt_I, ↓okSt_R, ↓okSt_N, ↓okSt_s, ↓rtI_s, ↓rtV_n, ↓brP_t, ↓brP_f, ↓sNear_findPartner_0, ↓sNear_findPartner_1, ↓sNear_findPartner_3, ↓sNear_findPartner_5, ↓sNear_findPartner_6, ↓rf_33_0, ↓sNear_findPartner_9, ↓rf_24_6, ↓sNear_findPartner_12, ↓sNear_findPartner_13, ↓sNear_findPartner_14, ↓sNear_findPartner_17, ↓sNear_findPartner_18, ↓sNear_findPartner_19, ↓rf_33_3, ↓sNear_findPartner_22, ↓sNear_findPartner_23, ↓sNear_findPartner_25, ↓sNear_findPartner_28, ↓sNear_findPartner_31, ↓sNear_findPartner_32, ↓sNear_findPartner_33, ↓sNear_findPartner_34, ↓sNear_findPartner_35, ↓sNear_findPartner_36, ↓sNear_findPartner_38, ↓sNear_findPartner_39, ↓sNear_findPartner_40, ↓sNear_findPartner_43, ↓sNear_findPartner_44, ↓sNear_findPartner_45, ↓sNear_findPartner_48, ↓sNear_findPartner_50, ↓sNear_findPartner_51, ↓sNear_findPartner_54, ↓sNear_findPartner_57, ↓sNear_findPartner_58, List.set_cons_zero, List.set_cons_succ, List.length_cons, List.length_nil, List.contains_cons, List.contains_nil, cat1, brP_d, true_and, and_true, not_false_eq_true, not_true_eq_false, if_true, if_false, Bool.or_false, Bool.false_or, Bool.or_true, Bool.true_or, Bool.false_eq_true, Bool.or_self, false_implies, true_implies, forall_const, and_self, implies_true, true_or, or_true, or_false, false_or, or_self, Classical.not_not, Int.reduceAdd, Int.reduceSub, Int.reduceMul, Int.reduceNeg, Int.reduceToNat, Int.reduceLT, Int.reduceLE, Int.reduceEq, Int.reduceNe, Int.reduceNatCast', Nat.reduceAdd, Nat.reduceSub, Nat.reduceLeDiff, Nat.reduceLT, Nat.reduceEqDiff, Nat.reduceBEq, reduceIte, nx_w, nx_c, up_n, up_s, up_f, ne_eq, Nat.reduceEqDiff, Option.some.injEq, Prod.mk.injEq, exists_eq_left', reduceCtorEq, ob_33, e6, h3]
    rw [wr_id (x := mN g - 1) (by omega) (by omega)]
    refine ⟨fun c1 => ?_, fun c1 => ?_⟩
    · exact Or.inl ⟨rfl, fun j j1 j2 => h5 j j1 (by omega)⟩
    · rw [wr_id (x := t + 1) (by omega) (by omega), wr_id (x := w + 1) (by omega) (by omega)]
      have ib := t_Near_isPair g h hC hk hr r t w (by omega) (by omega) (by omega)
      rw [show ((r : Int)).toNat = r by omega] at ib
      refine use_b ib (fun hc => ?_) (fun hc => ?_)
      · simp only [one_ne, not_false_eq_true, true_implies, false_implies, true_and, and_true]
        refine use_p (t_Near_pairsFrom h _ _ (by omega) (by omega)) ?_
        have b3 : h 35 (11 * (t.toNat + 1) + (w.toNat + 1)) = clG g r (t.toNat + 1) (w.toNat + 1) := hT _ _ (by push_cast; omega) (by push_cast; omega)
        have i3 : 0 ≤ clG g r (t.toNat + 1) (w.toNat + 1) ∧ clG g r (t.toNat + 1) (w.toNat + 1) ≤ (g 17 r).toNat := cl_in
        rw [show (t + 1).toNat = t.toNat + 1 by omega, show (w + 1).toNat = w.toNat + 1 by omega, b3, wr_id (x := 1 + clG g r (t.toNat + 1) (w.toNat + 1)) (by omega) (by omega)]
        refine ⟨fun c2 => nx c1 (fun z => c2 z.2), fun c2 => ?_⟩
        exact ⟨rfl, Or.inr ⟨w.toNat, by omega, by omega, by omega, ⟨hc, c2⟩, fun j j1 j2 => h5 j j1 (by omega)⟩⟩
      · simp only [not_true_eq_false, true_implies, false_implies, true_and, and_true]
        exact nx c1 (fun z => hc z.1)
set_option maxRecDepth 100000 in
set_option maxHeartbeats 4000000 in
theorem t_Near_findPartner (g h : HP) (hC : CI g) (hk : KF g h) (hr : rdG g h) (ha : allK g) (r : Nat) (hr' : (r : Int) < g 15 3) (h3 : h 33 3 = r) (hT : tabC g h r) (t fr left : Int) (ht : 0 ≤ t ∧ t < g 17 r) (hfr : 0 ≤ fr ∧ fr ≤ mN g) : trI mNear_findPartner [.inr (.inr 33), .inl t, .inl fr, .inl left] SH0 h (fun x h' => h' = h ∧ ptR g r t.toNat fr left x) := by
  refine startI [some (.inr (.inr 33)), some (.inl t), some (.inl fr), some (.inl left), none] mNear_findPartner_c (go [3] 400 (k := ?_))
  simp (config := {maxSteps := 1000000}) only [↓pI_c, ↓pR_c, ↓pJ_c, ↓pV_c, ↓popN_0, ↓popN_s, ↓lI_0, ↓lR_0, ↓lJ_0, ↓lI_s, ↓lR_s, ↓lJ_s, ↓okSt_0, ↓okSt_I, ↓okSt_R, ↓okSt_N, ↓okSt_s, ↓rtI_s, ↓rtV_n, ↓brP_t, ↓brP_f, ↓sNear_findPartner_0, ↓sNear_findPartner_1, ↓sNear_findPartner_3, ↓sNear_findPartner_5, ↓sNear_findPartner_6, ↓rf_33_0, ↓sNear_findPartner_9, ↓rf_24_6, ↓sNear_findPartner_12, ↓sNear_findPartner_13, ↓sNear_findPartner_14, ↓sNear_findPartner_17, ↓sNear_findPartner_18, ↓sNear_findPartner_19, ↓rf_33_3, ↓sNear_findPartner_22, ↓sNear_findPartner_23, ↓sNear_findPartner_25, ↓sNear_findPartner_28, ↓sNear_findPartner_31, ↓sNear_findPartner_32, ↓sNear_findPartner_33, ↓sNear_findPartner_34, ↓sNear_findPartner_35, ↓sNear_findPartner_36, ↓sNear_findPartner_38, ↓sNear_findPartner_39, ↓sNear_findPartner_40, ↓sNear_findPartner_43, ↓sNear_findPartner_44, ↓sNear_findPartner_45, ↓sNear_findPartner_48, ↓sNear_findPartner_50, ↓sNear_findPartner_51, ↓sNear_findPartner_54, ↓sNear_findPartner_57, ↓sNear_findPartner_58, List.set_cons_zero, List.set_cons_succ, List.length_cons, List.length_nil, List.contains_cons, List.contains_nil, cat1, brP_d, true_and, and_true, not_false_eq_true, not_true_eq_false, if_true, if_false, Bool.or_false, Bool.false_or, Bool.or_true, Bool.true_or, Bool.false_eq_true, Bool.or_self, false_implies, true_implies, forall_const, and_self, implies_true, true_or, or_true, or_false, false_or, or_self, Classical.not_not, Int.reduceAdd, Int.reduceSub, Int.reduceMul, Int.reduceNeg, Int.reduceToNat, Int.reduceLT, Int.reduceLE, Int.reduceEq, Int.reduceNe, Int.reduceNatCast', Nat.reduceAdd, Nat.reduceSub, Nat.reduceLeDiff, Nat.reduceLT, Nat.reduceEqDiff, Nat.reduceBEq, reduceIte, nx_w, nx_c, up_n, up_s, up_f, ne_eq, Nat.reduceEqDiff, Option.some.injEq, Prod.mk.injEq, exists_eq_left', reduceCtorEq, ob_33]
  exact l_Near_findPartner g h hC hk hr ha r hr' h3 hT t fr left ht hfr.1 ((mN g).toNat + 1) fr (by omega) (by omega) hfr.2 (fun j j1 j2 => by omega)
theorem cmS_in {g : HP} {r : Nat} : ∀ t : Nat, (cmS g r t).2.2.1 ≤ t ∧ (cmS g r t).2.1 ≤ clG g r 0 0 ∧ clG g r 0 0 - t ≤ (cmS g r t).2.1
  | 0 => ⟨Nat.le_refl _, Int.le_refl _, by show clG g r 0 0 - ((0 : Nat) : Int) ≤ clG g r 0 0; omega⟩
  | t + 1 => by
    have := cmS_in (g := g) (r := r) t
    show (cmN g r t (cmS g r t)).2.2.1 ≤ t + 1 ∧ (cmN g r t (cmS g r t)).2.1 ≤ clG g r 0 0 ∧ clG g r 0 0 - ((t + 1 : Nat) : Int) ≤ (cmN g r t (cmS g r t)).2.1
    unfold cmN
    push_cast
    split
    · show (cmS g r t).2.2.1 + 1 ≤ t + 1 ∧ (cmS g r t).2.1 ≤ clG g r 0 0 ∧ clG g r 0 0 - ((t : Int) + 1) ≤ (cmS g r t).2.1
      omega
    · show (cmS g r t).2.2.1 ≤ t + 1 ∧ (cmS g r t).2.1 - 1 ≤ clG g r 0 0 ∧ clG g r 0 0 - ((t : Int) + 1) ≤ (cmS g r t).2.1 - 1
      omega
def msA (m : Int) (f : Nat → Int) (s : Int × Int × Nat × (Nat → Int)) : Prop := m = s.2.2.1 ∧ ∀ i : Nat, i < s.2.2.1 → f i = s.2.2.2 i
def cmF (h0 h : HP) : Prop := (∀ a, a ≠ 33 → a ≠ 34 → h a = h0 a) ∧ ∀ b, b ≠ 4 → h 33 b = h0 33 b
set_option maxRecDepth 100000 in
set_option maxHeartbeats 4000000 in
theorem l_Near_collectMissing (g h0 : HP) (hC : CI g) (hk : KF g h0) (hr : rdG g h0) (ha : allK g) (r : Nat) (hr' : (r : Int) < g 15 3) (h3 : h0 33 3 = r) (hT : tabC g h0 r) : ∀ (d t : Nat) (h : HP) (x4 : Option AV), g 17 r - t < d → (t : Int) ≤ g 17 r → 0 ≤ (cmS g r t).1 → (cmS g r t).1 ≤ mN g → cmF h0 h → msA (h 33 4) (h 34) (cmS g r t) → Wn Z4 mNear_collectMissing SH0 11 [some (.inr (.inr 33)), some (.inl ((cmS g r t).1)), some (.inl ((cmS g r t).2.1)), some (.inl t), x4] [] h (rtV (fun h' => cmF h0 h' ∧ msA (h' 33 4) (h' 34) (cmS g r (g 17 r).toNat))) := by
  have hR := hC.2.2.1
  have h40 := hR.2.1
  have l4 := hR.2.2.2 r (by omega)
  have hn := mN_in hC.2.2.2.2
  intro d
  induction d with
  | zero => intro t h x4 h1 h2; omega
  | succ d ih =>
    intro t h x4 h1 h2 f1 f2 f3 f4
    have fn : fnF h0 h := ⟨fun a a1 a2 _ => f3.1 a a1 a2, fun b hb => f3.2 b (by omega)⟩
    have hk' := hk.tr fn.kf
    have hrd := hr.fn fn
    have e33 : h 33 3 = r := by rw [f3.2 3 (by decide)]; exact h3
    have e17 : h 17 = g 17 := hk' 17 (by decide)
    have er : ((r : Int)).toNat = r := by omega
    have hT' : tabC g h r := by
      unfold tabC
      rw [f3.1 35 (by decide) (by decide)]
      exact hT
    have hin := cmS_in (g := g) (r := r) t
    have ic : 0 ≤ clG g r 0 0 ∧ clG g r 0 0 ≤ (g 17 r).toNat := cl_in
    have e4 := f4.1
    refine go [11] 400 (k := ?_)
    simp (config := {maxSteps := 1000000}) only [↓pI_c, ↓pR_c, ↓pJ_c, ↓pV_c, ↓popN_0, ↓popN_s, ↓lI_0, ↓lR_0, ↓lJ_0, ↓lI_s, ↓lR_s, ↓lJ_s, ↓okSt_0, ↓okSt_I, ↓okSt_R, ↓okSt_N, ↓okSt_s, ↓rtI_s, ↓rtV_n, ↓brP_t, ↓brP_f, ↓sNear_collectMissing_0, ↓sNear_collectMissing_1, ↓sNear_collectMissing_2, ↓sNear_collectMissing_3, ↓sNear_collectMissing_4, ↓sNear_collectMissing_5, ↓sNear_collectMissing_8, ↓sNear_collectMissing_9, ↓sNear_collectMissing_10, ↓sNear_collectMissing_11, ↓sNear_collectMissing_12, ↓sNear_collectMissing_13, ↓rf_33_0, ↓sNear_collectMissing_16, ↓rf_24_3, ↓sNear_collectMissing_19, ↓rf_15_1, ↓sNear_collectMissing_22, ↓sNear_collectMissing_23, ↓rf_33_3, ↓sNear_collectMissing_26, ↓sNear_collectMissing_27, ↓sNear_collectMissing_30, ↓sNear_collectMissing_31, ↓sNear_collectMissing_32, ↓sNear_collectMissing_33, ↓sNear_collectMissing_34, ↓sNear_collectMissing_37, ↓sNear_collectMissing_39, ↓sNear_collectMissing_41, ↓sNear_collectMissing_42, ↓sNear_collectMissing_45, ↓sNear_collectMissing_46, ↓rf_33_1, ↓sNear_collectMissing_49, ↓sNear_collectMissing_50, ↓rf_33_4, ↓sNear_collectMissing_53, ↓sNear_collectMissing_54, ↓sNear_collectMissing_57, ↓sNear_collectMissing_60, ↓sNear_collectMissing_61, ↓sNear_collectMissing_64, ↓sNear_collectMissing_65, ↓sNear_collectMissing_68, ↓sNear_collectMissing_69, ↓sNear_collectMissing_70, ↓sNear_collectMissing_71, ↓sNear_collectMissing_74, ↓sNear_collectMissing_75, ↓sNear_collectMissing_76, ↓sNear_collectMissing_79, ↓sNear_collectMissing_82, ↓sNear_collectMissing_84, ↓sNear_collectMissing_85, ↓sNear_collectMissing_86, ↓sNear_collectMissing_87, ↓sNear_collectMissing_90, ↓sNear_collectMissing_93, ↓sNear_collectMissing_96, ↓ln_17, ↓ln_34, List.set_cons_zero, List.set_cons_succ, List.length_cons, List.length_nil, List.contains_cons, List.contains_nil, cat1, brP_d, true_and, and_true, not_false_eq_true, not_true_eq_false, if_true, if_false, Bool.or_false, Bool.false_or, Bool.or_true, Bool.true_or, Bool.false_eq_true, Bool.or_self, false_implies, true_implies, forall_const, and_self, implies_true, true_or, or_true, or_false, false_or, or_self, Classical.not_not, Int.reduceAdd, Int.reduceSub, Int.reduceMul, Int.reduceNeg, Int.reduceToNat, Int.reduceLT, Int.reduceLE, Int.reduceEq, Int.reduceNe, Int.reduceNatCast', Nat.reduceAdd, Nat.reduceSub, Nat.reduceLeDiff, Nat.reduceLT, Nat.reduceEqDiff, Nat.reduceBEq, reduceIte, nx_w, nx_c, up_n, up_s, up_f, ne_eq, Nat.reduceEqDiff, Option.some.injEq, Prod.mk.injEq, exists_eq_left', reduceCtorEq, ob_33, ob_15, e33, e17, er]
    refine ⟨by omega, fun c1 => ?_, fun c1 => ?_⟩
    · rw [show (g 17 r).toNat = t by omega]
      exact ⟨f3, f4⟩
    · refine use_q (t_Near_findPartner g h hC hk' hrd ha r hr' e33 hT' t _ _ (by omega) ⟨f1, f2⟩) ?_
      intro x hx
      rw [show ((t : Int)).toNat = t by omega] at hx
      rw [wr_id (x := (t : Int) + 1) (by omega) (by omega)]
      refine ⟨fun c2 => ?_, fun c2 => ?_⟩
      · have es : cmS g r (t + 1) = (x + 1, (cmS g r t).2.1 - 1, (cmS g r t).2.2.1, (cmS g r t).2.2.2) := cmN_s hx c2
        have hxi : 0 ≤ x ∧ x < mN g - 1 := by
          rcases hx with z | ⟨q, a1, a2, a3, _⟩
          · exact absurd z.1 c2
          · omega
        rw [wr_id (x := x + 1) (by omega) (by omega), wr_id (x := (cmS g r t).2.1 + -1) (by omega) (by omega)]
        have := ih (t + 1) h (some (.inl x)) (by push_cast; omega) (by push_cast; omega) (by rw [es]; show 0 ≤ x + 1; omega) (by rw [es]; show x + 1 ≤ mN g; omega) f3 (by rw [es]; exact f4)
        rw [es] at this
        push_cast at this
        exact this
      · subst c2
        have es : cmS g r (t + 1) = ((cmS g r t).1, (cmS g r t).2.1, (cmS g r t).2.2.1 + 1, fun i => if i = (cmS g r t).2.2.1 then g 18 (4 * r + t) else (cmS g r t).2.2.2 i) := cmN_n hx
        rw [e33]
        refine use_p (t_Rules_tokenAt h r t (by omega) (by omega)) ?_
        rw [er, show ((t : Int)).toNat = t by omega, e4, hk' 18 (by decide), wr_id (x := ((cmS g r t).2.2.1 : Int) + 1) (by omega) (by omega), show (((cmS g r t).2.2.1 : Nat) : Int).toNat = (cmS g r t).2.2.1 by omega]
        refine ⟨by omega, ?_⟩
        have := ih (t + 1) (up (up h 34 (cmS g r t).2.2.1 (g 18 (4 * r + t))) 33 4 ((cmS g r t).2.2.1 + 1)) (some (.inl (-1))) (by push_cast; omega) (by push_cast; omega) (by rw [es]; exact f1) (by rw [es]; exact f2) ⟨fun a a1 a2 => by rw [up_ne a1, up_ne a2]; exact f3.1 a a1 a2, fun b hb => by rw [up_f hb, up_n (by decide)]; exact f3.2 b hb⟩ (by
          rw [es, up_s]
          refine ⟨by push_cast; rfl, fun i hi => ?_⟩
          have hi' : i < (cmS g r t).2.2.1 + 1 := hi
          rw [up_n (by decide), up_a]
          show _ = if i = (cmS g r t).2.2.1 then g 18 (4 * r + t) else (cmS g r t).2.2.2 i
          by_cases z : i = (cmS g r t).2.2.1
          · rw [if_pos z, if_pos z]
          · rw [if_neg z, if_neg z]
            exact f4.2 i (by omega))
        rw [es] at this
        push_cast at this
        exact this
set_option maxRecDepth 100000 in
set_option maxHeartbeats 4000000 in
theorem t_Near_collectMissing (g h : HP) (hC : CI g) (hk : KF g h) (hr : rdG g h) (ha : allK g) (r : Nat) (hr' : (r : Int) < g 15 3) (h3 : h 33 3 = r) (h4 : h 33 4 = 0) (hT : tabC g h r) : trV mNear_collectMissing [.inr (.inr 33)] SH0 h (fun h' => cmF h h' ∧ msA (h' 33 4) (h' 34) (cmS g r (g 17 r).toNat)) := by
  have hR := hC.2.2.1
  have h40 := hR.2.1
  have l4 := hR.2.2.2 r (by omega)
  have hn := mN_in hC.2.2.2.2
  have hpos := ha.1
  refine startV [some (.inr (.inr 33)), none, none, none, none] mNear_collectMissing_c (go [11] 400 (k := ?_))
  simp (config := {maxSteps := 1000000}) only [↓pI_c, ↓pR_c, ↓pJ_c, ↓pV_c, ↓popN_0, ↓popN_s, ↓lI_0, ↓lR_0, ↓lJ_0, ↓lI_s, ↓lR_s, ↓lJ_s, ↓okSt_0, ↓okSt_I, ↓okSt_R, ↓okSt_N, ↓okSt_s, ↓rtI_s, ↓rtV_n, ↓brP_t, ↓brP_f, ↓sNear_collectMissing_0, ↓sNear_collectMissing_1, ↓sNear_collectMissing_2, ↓sNear_collectMissing_3, ↓sNear_collectMissing_4, ↓sNear_collectMissing_5, ↓sNear_collectMissing_8, ↓sNear_collectMissing_9, ↓sNear_collectMissing_10, ↓sNear_collectMissing_11, ↓sNear_collectMissing_12, ↓sNear_collectMissing_13, ↓rf_33_0, ↓sNear_collectMissing_16, ↓rf_24_3, ↓sNear_collectMissing_19, ↓rf_15_1, ↓sNear_collectMissing_22, ↓sNear_collectMissing_23, ↓rf_33_3, ↓sNear_collectMissing_26, ↓sNear_collectMissing_27, ↓sNear_collectMissing_30, ↓sNear_collectMissing_31, ↓sNear_collectMissing_32, ↓sNear_collectMissing_33, ↓sNear_collectMissing_34, ↓sNear_collectMissing_37, ↓sNear_collectMissing_39, ↓sNear_collectMissing_41, ↓sNear_collectMissing_42, ↓sNear_collectMissing_45, ↓sNear_collectMissing_46, ↓rf_33_1, ↓sNear_collectMissing_49, ↓sNear_collectMissing_50, ↓rf_33_4, ↓sNear_collectMissing_53, ↓sNear_collectMissing_54, ↓sNear_collectMissing_57, ↓sNear_collectMissing_60, ↓sNear_collectMissing_61, ↓sNear_collectMissing_64, ↓sNear_collectMissing_65, ↓sNear_collectMissing_68, ↓sNear_collectMissing_69, ↓sNear_collectMissing_70, ↓sNear_collectMissing_71, ↓sNear_collectMissing_74, ↓sNear_collectMissing_75, ↓sNear_collectMissing_76, ↓sNear_collectMissing_79, ↓sNear_collectMissing_82, ↓sNear_collectMissing_84, ↓sNear_collectMissing_85, ↓sNear_collectMissing_86, ↓sNear_collectMissing_87, ↓sNear_collectMissing_90, ↓sNear_collectMissing_93, ↓sNear_collectMissing_96, ↓ln_17, ↓ln_34, List.set_cons_zero, List.set_cons_succ, List.length_cons, List.length_nil, List.contains_cons, List.contains_nil, cat1, brP_d, true_and, and_true, not_false_eq_true, not_true_eq_false, if_true, if_false, Bool.or_false, Bool.false_or, Bool.or_true, Bool.true_or, Bool.false_eq_true, Bool.or_self, false_implies, true_implies, forall_const, and_self, implies_true, true_or, or_true, or_false, false_or, or_self, Classical.not_not, Int.reduceAdd, Int.reduceSub, Int.reduceMul, Int.reduceNeg, Int.reduceToNat, Int.reduceLT, Int.reduceLE, Int.reduceEq, Int.reduceNe, Int.reduceNatCast', Nat.reduceAdd, Nat.reduceSub, Nat.reduceLeDiff, Nat.reduceLT, Nat.reduceEqDiff, Nat.reduceBEq, reduceIte, nx_w, nx_c, up_n, up_s, up_f, ne_eq, Nat.reduceEqDiff, Option.some.injEq, Prod.mk.injEq, exists_eq_left', reduceCtorEq, ob_33, ob_15]
  refine use_p (t_Near_pairsFrom h 0 0 (by omega) (by omega)) ?_
  have e0 : h 35 (11 * 0 + 0) = clG g r 0 0 := hT 0 0 (by push_cast; omega) (by push_cast; omega)
  rw [show (0 : Int).toNat = 0 from rfl, e0]
  exact l_Near_collectMissing g h hC hk hr ha r hr' h3 hT ((g 17 r).toNat + 1) 0 h _ (by push_cast; omega) (by push_cast; omega) (Int.le_refl _) hn.1 ⟨fun _ _ _ => rfl, fun _ _ => rfl⟩ ⟨h4, fun i hi => absurd hi (Nat.not_lt_zero i)⟩
/-- the nearest rule, what it misses, what is too much -/
def nrG (g : HP) (v : Int) (rl m ex : Int) (f : Nat → Int) : Prop := (¬ (v = 0 ∨ v = 6) ∧ rl = -1 ∧ m = 0 ∧ ex = 0) ∨ ((v = 0 ∨ v = 6) ∧ (∃ l, fmP (verbR g) (offG g) (g 15 3) rl l) ∧ ((rl = -1 ∧ m = 0 ∧ ex = 0) ∨ ∃ r : Nat, rl = r ∧ (r : Int) < g 15 3 ∧ ex = mN g - 1 - clG g r 0 0 ∧ msA m f (cmS g r (g 17 r).toNat)))
theorem nrG_in {g : HP} (hR : CR g) {v rl m ex : Int} {f : Nat → Int} (h : nrG g v rl m ex f) : 0 ≤ m ∧ m ≤ 4 := by
  rcases h with ⟨_, _, a, _⟩ | ⟨_, _, ⟨_, a, _⟩ | ⟨r, _, a1, _, a2⟩⟩
  · omega
  · omega
  · have := cmS_in (g := g) (r := r) (g 17 r).toNat
    have l4 := hR.2.2.2 r (by have := hR.2.1; omega)
    have := a2.1
    omega
theorem nrG_uni {g : HP} {v rl m ex rl' m' ex' : Int} {f f' : Nat → Int} (h : nrG g v rl m ex f) (h' : nrG g v rl' m' ex' f') : rl = rl' ∧ m = m' ∧ ex = ex' ∧ ∀ i : Nat, (i : Int) < m → f i = f' i := by
  rcases h with ⟨a0, a1, a2, a3⟩ | ⟨a0, ⟨l, a1⟩, a2⟩
  · rcases h' with ⟨b0, b1, b2, b3⟩ | ⟨b0, _⟩
    · exact ⟨by omega, by omega, by omega, fun i hi => by omega⟩
    · exact absurd b0 a0
  · rcases h' with ⟨b0, b1, b2, b3⟩ | ⟨b0, ⟨l', b1⟩, b2⟩
    · exact absurd a0 b0
    · have e := fmP_uni a1 b1
      subst e
      rcases a2 with ⟨c1, c2, c3⟩ | ⟨r, c1, c2, c3, c4⟩
      · rcases b2 with ⟨d1, d2, d3⟩ | ⟨r', d1, d2, d3, d4⟩
        · exact ⟨rfl, by omega, by omega, fun i hi => by omega⟩
        · omega
      · rcases b2 with ⟨d1, d2, d3⟩ | ⟨r', d1, d2, d3, d4⟩
        · omega
        · have e : r = r' := by omega
          subst e
          exact ⟨rfl, by rw [c4.1, d4.1], by omega, fun i hi => by rw [c4.2 i (by have := c4.1; omega), d4.2 i (by have := c4.1; omega)]⟩
def qNU (g h0 h : HP) : Prop := fnF h0 h ∧ nrG g (h0 24 7) (h 33 3) (h 33 4) (h 33 5) (h 34)
set_option maxRecDepth 100000 in
set_option maxHeartbeats 4000000 in
theorem u_Near_update (g h h1 : HP) (hC : CI g) (hk : KF g h) (hr : rdG g h) (hf : fnF h h1) (e4 : h1 33 4 = 0) (e5 : h1 33 5 = 0) (hv : (¬ (h 24 7 = 0 ∨ h 24 7 = 6) ∧ h1 33 3 = -1) ∨ ((h 24 7 = 0 ∨ h 24 7 = 6) ∧ allK g ∧ ∃ l, fmP (verbR g) (offG g) (g 15 3) (h1 33 3) l)) : Wn Z4 mNear_update SH0 41 [some (.inr (.inr 33))] [] h1 (rtV (qNU g h)) := by
  have hR := hC.2.2.1
  have h40 := hR.2.1
  have hn := mN_in hC.2.2.2.2
  refine go [9999] 400 (k := ?_)
  simp (config := {maxSteps := 1000000}) only [↓pI_c, ↓pR_c, ↓pJ_c, ↓pV_c, ↓popN_0, ↓popN_s, ↓lI_0, ↓lR_0, ↓lJ_0, ↓lI_s, ↓lR_s, ↓lJ_s, ↓okSt_0, ↓okSt_I, ↓okSt_R, ↓okSt_N, ↓okSt_s, ↓rtI_s, ↓rtV_n, ↓brP_t, ↓brP_f, ↓sNear_update_0, ↓sNear_update_1, ↓sNear_update_2, ↓rf_33_3, ↓sNear_update_5, ↓sNear_update_6, ↓sNear_update_7, ↓rf_33_4, ↓sNear_update_10, ↓sNear_update_11, ↓sNear_update_12, ↓rf_33_5, ↓sNear_update_15, ↓sNear_update_16, ↓rf_33_0, ↓sNear_update_19, ↓rf_24_7, ↓sNear_update_22, ↓sNear_update_25, ↓sNear_update_26, ↓sNear_update_29, ↓sNear_update_32, ↓sNear_update_34, ↓sNear_update_37, ↓sNear_update_38, ↓sNear_update_41, ↓sNear_update_42, ↓sNear_update_45, ↓sNear_update_46, ↓sNear_update_49, ↓sNear_update_50, ↓sNear_update_51, ↓sNear_update_54, ↓sNear_update_57, ↓sNear_update_58, ↓sNear_update_59, ↓sNear_update_62, ↓rf_24_6, ↓sNear_update_65, ↓sNear_update_66, ↓sNear_update_67, ↓sNear_update_68, ↓sNear_update_69, ↓sNear_update_70, ↓sNear_update_73, ↓sNear_update_74, ↓sNear_update_77, ↓sNear_update_78, ↓sNear_update_81, List.set_cons_zero, List.set_cons_succ, List.length_cons, List.length_nil, List.contains_cons, List.contains_nil, cat1, brP_d, true_and, and_true, not_false_eq_true, not_true_eq_false, if_true, if_false, Bool.or_false, Bool.false_or, Bool.or_true, Bool.true_or, Bool.false_eq_true, Bool.or_self, false_implies, true_implies, forall_const, and_self, implies_true, true_or, or_true, or_false, false_or, or_self, Classical.not_not, Int.reduceAdd, Int.reduceSub, Int.reduceMul, Int.reduceNeg, Int.reduceToNat, Int.reduceLT, Int.reduceLE, Int.reduceEq, Int.reduceNe, Int.reduceNatCast', Nat.reduceAdd, Nat.reduceSub, Nat.reduceLeDiff, Nat.reduceLT, Nat.reduceEqDiff, Nat.reduceBEq, reduceIte, nx_w, nx_c, up_n, up_s, up_f, ne_eq, Nat.reduceEqDiff, Option.some.injEq, Prod.mk.injEq, exists_eq_left', reduceCtorEq, ob_33]
  refine ⟨fun c1 => ?_, fun c1 => ?_⟩
  · refine ⟨hf, ?_⟩
    rcases hv with ⟨a1, a2⟩ | ⟨a1, a2, a3⟩
    · exact Or.inl ⟨a1, a2, e4, e5⟩
    · exact Or.inr ⟨a1, a3, Or.inl ⟨c1, e4, e5⟩⟩
  · rcases hv with ⟨a1, a2⟩ | ⟨a1, a2, l, a3⟩
    · exact absurd a2 c1
    · have hrr : ∃ r : Nat, (r : Int) < g 15 3 ∧ h1 33 3 = r := by
        rcases a3 with z | ⟨q, q1, q2, _⟩
        · exact absurd z.1 c1
        · exact ⟨q, q1, q2⟩
      obtain ⟨r, r1, r2⟩ := hrr
      have l4 := hR.2.2.2 r (by omega)
      have hpos := a2.1
      rw [r2]
      refine trV_use (t_Near_countPairs g h1 hC (hk.tr hf.kf) (hr.fn hf) a2 r r1) ?_
      intro h2 hc
      have f2 := hf.tr (fnF.cp hc)
      have e33 : h2 33 = h1 33 := hc.1 33 (by decide)
      have e6 : h2 24 6 = mN g := (hr.fn f2).1
      have e0 : h2 35 (11 * 0 + 0) = clG g r 0 0 := hc.2 0 0 (by push_cast; omega) (by push_cast; omega) (Or.inl (by decide))
      have ic : 0 ≤ clG g r 0 0 ∧ clG g r 0 0 ≤ (g 17 r).toNat := cl_in
      refine use_p (t_Near_pairsFrom h2 0 0 (by omega) (by omega)) ?_
      rw [show (0 : Int).toNat = 0 from rfl, e0, e6, wr_id (x := mN g - 1) (by omega) (by omega), wr_id (x := mN g - 1 - clG g r 0 0) (by omega) (by omega)]
      have f3 : fnF h (up h2 33 5 (mN g - 1 - clG g r 0 0)) := f2.up (by decide)
      refine trV_use (t_Near_collectMissing g (up h2 33 5 (mN g - 1 - clG g r 0 0)) hC (hk.tr f3.kf) (hr.fn f3) a2 r r1 (by rw [up_f (by decide), e33]; exact r2) (by rw [up_f (by decide), e33]; exact e4) (by
        intro t' w' q1 q2
        rw [up_n (by decide)]
        exact hc.2 t' w' q1 q2 (by omega))) ?_
      rintro h3 ⟨k1, k2⟩
      refine ⟨f3.tr ⟨fun a a1 a2 _ => k1.1 a a1 a2, fun b hb => k1.2 b (by omega)⟩, ?_⟩
      rw [k1.2 3 (by decide), k1.2 5 (by decide), up_s, up_f (by decide), e33]
      exact Or.inr ⟨a1, ⟨l, a3⟩, Or.inr ⟨r, r2, r1, rfl, k2⟩⟩
set_option maxRecDepth 100000 in
set_option maxHeartbeats 4000000 in
theorem t_Near_update (g h : HP) (hC : CI g) (hk : KF g h) (hr : rdG g h) : trV mNear_update [.inr (.inr 33)] SH0 h (qNU g h) := by
  have f0 : fnF h (up (up (up h 33 3 (-1)) 33 4 0) 33 5 0) := ((fnF.rf.up (by decide)).up (by decide)).up (by decide)
  have e3 : up (up (up h 33 3 (-1)) 33 4 0) 33 5 0 33 3 = -1 := by rw [up_f (by decide), up_f (by decide), up_s]
  have e4 : up (up (up h 33 3 (-1)) 33 4 0) 33 5 0 33 4 = 0 := by rw [up_f (by decide), up_s]
  have e5 : up (up (up h 33 3 (-1)) 33 4 0) 33 5 0 33 5 = 0 := up_s
  obtain ⟨h0, hh0⟩ : ∃ h0, up (up (up h 33 3 (-1)) 33 4 0) 33 5 0 = h0 := ⟨_, rfl⟩
  rw [hh0] at f0 e3 e4 e5
  have e24 : h0 24 7 = h 24 7 := by rw [f0.1 24 (by decide) (by decide) (by decide)]
  have yes : (h 24 7 = 0 ∨ h 24 7 = 6) → ∃ Q : HP → Prop, trV mNear_findRule [.inr (.inr 33)] SH0 h0 Q ∧ ∀ h', Q h' → Wn Z4 mNear_update SH0 41 [some (.inr (.inr 33))] [] h' (rtV (qNU g h)) := by
    intro hv
    have ha := (verd_06 hC.2.1 hr.2.2 hv).1
    refine trV_use (t_Near_findRule g h0 hC (hk.tr f0.kf) (hr.fn f0) ha e3) ?_
    rintro h1 ⟨k1, k2, k3, k4⟩
    exact u_Near_update g h h1 hC hk hr (f0.tr k1) (k2.trans e4) (k3.trans e5) (Or.inr ⟨hv, ha, k4⟩)
  refine startV [some (.inr (.inr 33))] mNear_update_c (go [41] 400 (k := ?_))
  simp (config := {maxSteps := 1000000}) only [↓pI_c, ↓pR_c, ↓pJ_c, ↓pV_c, ↓popN_0, ↓popN_s, ↓lI_0, ↓lR_0, ↓lJ_0, ↓lI_s, ↓lR_s, ↓lJ_s, ↓okSt_0, ↓okSt_I, ↓okSt_R, ↓okSt_N, ↓okSt_s, ↓rtI_s, ↓rtV_n, ↓brP_t, ↓brP_f, ↓sNear_update_0, ↓sNear_update_1, ↓sNear_update_2, ↓rf_33_3, ↓sNear_update_5, ↓sNear_update_6, ↓sNear_update_7, ↓rf_33_4, ↓sNear_update_10, ↓sNear_update_11, ↓sNear_update_12, ↓rf_33_5, ↓sNear_update_15, ↓sNear_update_16, ↓rf_33_0, ↓sNear_update_19, ↓rf_24_7, ↓sNear_update_22, ↓sNear_update_25, ↓sNear_update_26, ↓sNear_update_29, ↓sNear_update_32, ↓sNear_update_34, ↓sNear_update_37, ↓sNear_update_38, ↓sNear_update_41, ↓sNear_update_42, ↓sNear_update_45, ↓sNear_update_46, ↓sNear_update_49, ↓sNear_update_50, ↓sNear_update_51, ↓sNear_update_54, ↓sNear_update_57, ↓sNear_update_58, ↓sNear_update_59, ↓sNear_update_62, ↓rf_24_6, ↓sNear_update_65, ↓sNear_update_66, ↓sNear_update_67, ↓sNear_update_68, ↓sNear_update_69, ↓sNear_update_70, ↓sNear_update_73, ↓sNear_update_74, ↓sNear_update_77, ↓sNear_update_78, ↓sNear_update_81, List.set_cons_zero, List.set_cons_succ, List.length_cons, List.length_nil, List.contains_cons, List.contains_nil, cat1, brP_d, true_and, and_true, not_false_eq_true, not_true_eq_false, if_true, if_false, Bool.or_false, Bool.false_or, Bool.or_true, Bool.true_or, Bool.false_eq_true, Bool.or_self, false_implies, true_implies, forall_const, and_self, implies_true, true_or, or_true, or_false, false_or, or_self, Classical.not_not, Int.reduceAdd, Int.reduceSub, Int.reduceMul, Int.reduceNeg, Int.reduceToNat, Int.reduceLT, Int.reduceLE, Int.reduceEq, Int.reduceNe, Int.reduceNatCast', Nat.reduceAdd, Nat.reduceSub, Nat.reduceLeDiff, Nat.reduceLT, Nat.reduceEqDiff, Nat.reduceBEq, reduceIte, nx_w, nx_c, up_n, up_s, up_f, ne_eq, Nat.reduceEqDiff, Option.some.injEq, Prod.mk.injEq, exists_eq_left', reduceCtorEq, ob_33, hh0]
  rw [e24]
  exact ⟨fun c1 => yes (Or.inl c1), fun c1 => ⟨fun c2 => u_Near_update g h h0 hC hk hr f0 e4 e5 (Or.inl ⟨by omega, e3⟩), fun c2 => yes (Or.inr c2)⟩⟩
