/-! one typed word of the line gives way to a name -/
def rpB (b : Nat → Int) (s l : Int) (nm : Nat → Int) (L : Int) (j : Nat) : Int := if (j : Int) < s then b j else if (j : Int) < s + L then 97 + nm (j - s.toNat) else b (j - L.toNat + l.toNat)
theorem rpl1 {b nm : Nat → Int} {s l L : Int} {j : Nat} (h : (j : Int) < s) : rpB b s l nm L j = b j := by
  unfold rpB
  rw [if_pos h]
theorem rpl2 {b nm : Nat → Int} {s l L : Int} {j : Nat} (h : s ≤ j) (h' : (j : Int) < s + L) : rpB b s l nm L j = 97 + nm (j - s.toNat) := by
  unfold rpB
  rw [if_neg (by omega), if_pos h']
theorem rpl3 {b nm : Nat → Int} {s l L : Int} {j : Nat} (hL : 0 ≤ L) (h : s + L ≤ j) : rpB b s l nm L j = b (j - L.toNat + l.toNat) := by
  unfold rpB
  rw [if_neg (by omega), if_neg (by omega)]
theorem lOf_97 {x : Int} (h : 0 ≤ x ∧ x ≤ 25) : lOf (97 + x) = x := by
  unfold lOf
  rw [if_pos (by omega)]
  omega
theorem rc_rpl {b nm : Nat → Int} {s l L : Nat} (hl : 0 < l) (hL : 0 < L) (hb : ∀ i, s ≤ i → i < s + l → ¬ lOf (b i) = -1) (hn : ∀ i, i < L → 0 ≤ nm i ∧ nm i ≤ 25) (hs : s = 0 ∨ lOf (b (s - 1)) = -1) : ∀ d : Nat, rc (rpB b s l nm L) (s + L + d) = rc b (s + l + d)
  | 0 => by
    have e1 : rc (rpB b s l nm L) s = rc b s := rc_congr s (fun i hi => rpl1 (by omega))
    have e2 := rc_run (f := rpB b s l nm L) (s := s) (L - 1) (fun i h1 h2 => by
      rw [rpl2 (by omega) (by omega), lOf_97 (hn _ (by omega))]
      have := hn (i - ((s : Int)).toNat) (by omega)
      omega) (by
      rcases hs with z | z
      · exact Or.inl z
      · by_cases y : s = 0
        · exact Or.inl y
        · right
          rw [rpl1 (by omega)]
          exact z)
    have e3 := rc_run (f := b) (s := s) (l - 1) (fun i h1 h2 => hb i h1 (by omega)) hs
    rw [show s + L + 0 = s + (L - 1) + 1 by omega, show s + l + 0 = s + (l - 1) + 1 by omega, e2, e3, e1]
  | d + 1 => by
    have ih := rc_rpl hl hL hb hn hs d
    have v : rpB b s l nm L (s + L + d) = b (s + l + d) := by
      rw [rpl3 (by omega) (by omega)]
      congr 1
      omega
    have hc : (¬ lOf (rpB b s l nm L (s + L + d)) = -1 ∧ (s + L + d = 0 ∨ lOf (rpB b s l nm L (s + L + d - 1)) = -1)) ↔ (¬ lOf (b (s + l + d)) = -1 ∧ (s + l + d = 0 ∨ lOf (b (s + l + d - 1)) = -1)) := by
      rw [v]
      by_cases z : d = 0
      · subst z
        have a1 : ¬ lOf (rpB b s l nm L (s + L + 0 - 1)) = -1 := by
          rw [rpl2 (by omega) (by omega), lOf_97 (hn _ (by omega))]
          have := hn (s + L + 0 - 1 - ((s : Int)).toNat) (by omega)
          omega
        have a2 : ¬ lOf (b (s + l + 0 - 1)) = -1 := hb _ (by omega) (by omega)
        constructor
        · rintro ⟨_, y | y⟩
          · omega
          · exact absurd y a1
        · rintro ⟨_, y | y⟩
          · omega
          · exact absurd y a2
      · have v' : rpB b s l nm L (s + L + d - 1) = b (s + l + d - 1) := by
          rw [rpl3 (by omega) (by omega)]
          congr 1
          omega
        rw [v']
        constructor
        · rintro ⟨y1, y | y⟩
          · omega
          · exact ⟨y1, Or.inr y⟩
        · rintro ⟨y1, y | y⟩
          · omega
          · exact ⟨y1, Or.inr y⟩
    show rc (rpB b s l nm L) (s + L + d) + (if ¬ lOf (rpB b s l nm L (s + L + d)) = -1 ∧ (s + L + d = 0 ∨ lOf (rpB b s l nm L (s + L + d - 1)) = -1) then 1 else 0) = rc b (s + l + d) + (if ¬ lOf (b (s + l + d)) = -1 ∧ (s + l + d = 0 ∨ lOf (b (s + l + d - 1)) = -1) then 1 else 0)
    rw [ih]
    simp only [hc]
theorem runs_before {g : HP} {m tz : Int} {b st ln : Nat → Int} (h : IRuns g m tz b st ln) {k : Nat} (hk : (k : Int) < tz) : st k = 0 ∨ lOf (b ((st k).toNat - 1)) = -1 := by
  obtain ⟨a1, a2, a3, a4, a5⟩ := h
  have hh : IRuns g m tz b st ln := ⟨a1, a2, a3, a4, a5⟩
  obtain ⟨c1, c2, c3, _⟩ := a3 k hk
  by_cases z : st k = 0
  · exact Or.inl z
  · right
    by_cases y : lOf (b ((st k).toNat - 1)) = -1
    · exact y
    · obtain ⟨k', d1, d2, d3⟩ := a4 ((st k).toNat - 1) (by omega) y
      rcases Nat.lt_trichotomy k' k with e | e | e
      · have := runs_lt' hh e hk
        omega
      · rw [e] at d2
        omega
      · have := runs_lt' hh e d1
        omega
theorem runs_rpl {g g' : HP} {m tz : Int} {b st ln : Nat → Int} (h : IRuns g m tz b st ln) {k : Nat} (hk : (k : Int) < tz) {nm : Nat → Int} {L : Int} (hL : 0 < L) (hn : ∀ i : Nat, (i : Int) < L → 0 ≤ nm i ∧ nm i ≤ 25) : IRuns g' (m - ln k + L) tz (rpB b (st k) (ln k) nm L) (fun j => if j ≤ k then st j else st j + L - ln k) (fun j => if j = k then L else ln j) := by
  obtain ⟨a1, a2, a3, a4, a5⟩ := h
  have hh : IRuns g m tz b st ln := ⟨a1, a2, a3, a4, a5⟩
  obtain ⟨c1, c2, c3, c4⟩ := a3 k hk
  refine ⟨a1, a2, fun j hj => ?_, fun i hi hc => ?_, fun j hj => ?_⟩
  · obtain ⟨d1, d2, d3, d4⟩ := a3 j hj
    rcases Nat.lt_trichotomy j k with e | e | e
    · have := runs_lt' hh e hk
      simp only [if_pos (show j ≤ k by omega), if_neg (show ¬ j = k by omega)]
      exact ⟨d1, d2, by omega, fun i h1 h2 => by rw [rpl1 (by omega)]; exact d4 i h1 h2⟩
    · subst e
      simp only [if_pos (Nat.le_refl j), if_true]
      refine ⟨d1, hL, by omega, fun i h1 h2 => ?_⟩
      have := hn (i - (st j).toNat) (by omega)
      rw [rpl2 h1 h2, lOf_97 this]
      omega
    · have := runs_lt' hh e hj
      simp only [if_neg (show ¬ j ≤ k by omega), if_neg (show ¬ j = k by omega)]
      refine ⟨by omega, d2, by omega, fun i h1 h2 => ?_⟩
      rw [rpl3 (by omega) (by omega)]
      exact d4 _ (by omega) (by omega)
  · by_cases z1 : (i : Int) < st k
    · rw [rpl1 z1] at hc
      obtain ⟨k', e1, e2, e3⟩ := a4 i (by omega) hc
      have : k' < k := by
        rcases Nat.lt_trichotomy k' k with e | e | e
        · exact e
        · rw [e] at e2; omega
        · have := runs_lt' hh e e1; omega
      refine ⟨k', e1, ?_⟩
      simp only [if_pos (show k' ≤ k by omega), if_neg (show ¬ k' = k by omega)]
      exact ⟨e2, e3⟩
    · by_cases z2 : (i : Int) < st k + L
      · refine ⟨k, hk, ?_⟩
        simp only [if_pos (Nat.le_refl k), if_true]
        omega
      · rw [rpl3 (by omega) (by omega)] at hc
        obtain ⟨k', e1, e2, e3⟩ := a4 _ (by omega) hc
        have : k < k' := by
          rcases Nat.lt_trichotomy k' k with e | e | e
          · have := runs_lt' hh e hk; omega
          · rw [e] at e3; omega
          · exact e
        refine ⟨k', e1, ?_⟩
        simp only [if_neg (show ¬ k' ≤ k by omega), if_neg (show ¬ k' = k by omega)]
        omega
  · have := a5 j hj
    obtain ⟨d1, d2, d3, _⟩ := a3 j (by omega)
    rcases Nat.lt_trichotomy j k with e | e | e
    · simp only [if_pos (show j ≤ k by omega), if_neg (show ¬ j = k by omega), if_pos (show j + 1 ≤ k by omega)]
      exact this
    · subst e
      simp only [if_pos (Nat.le_refl j), if_true, if_neg (show ¬ j + 1 ≤ j by omega)]
      omega
    · simp only [if_neg (show ¬ j ≤ k by omega), if_neg (show ¬ j = k by omega), if_neg (show ¬ j + 1 ≤ k by omega)]
      omega
-- the class
def rpS (h : HP) (k n : Nat) : Int := h 19 4 - h 23 k + h 8 n
def rpF (h : HP) (k n : Nat) : Nat → Int := rpB (h 20) (h 22 k) (h 23 k) (nmF h n) (h 8 n)
/-- what the line is once typed word k is name n -/
def qRpl (h : HP) (k n : Nat) (h' : HP) : Prop := (∀ a, a ≠ 19 → a ≠ 20 → a ≠ 21 → a ≠ 22 → a ≠ 23 → h' a = h a) ∧ (∀ b, b ≠ 4 → b ≠ 5 → h' 19 b = h 19 b) ∧ h' 19 4 = rpS h k n ∧ (∀ j : Nat, (j : Int) < rpS h k n → h' 20 j = rpF h k n j ∧ h' 21 j = lOf (rpF h k n j)) ∧ h' 19 5 = h 19 5 ∧ (∀ j : Nat, (j : Int) < h 19 5 → h' 22 j = (if j ≤ k then h 22 j else h 22 j + h 8 n - h 23 k) ∧ h' 23 j = (if j = k then h 8 n else h 23 j)) ∧ IRuns h' (rpS h k n) (h' 19 5) (h' 20) (h' 22) (h' 23) ∧ h' 19 5 = rc (h' 20) (rpS h k n).toNat
theorem rc_rpI {b nm : Nat → Int} {s l L m : Int} (hs0 : 0 ≤ s) (hl : 0 < l) (hL : 0 < L) (hm : s + l ≤ m) (hb : ∀ i : Nat, s ≤ i → (i : Int) < s + l → ¬ lOf (b i) = -1) (hn : ∀ i : Nat, (i : Int) < L → 0 ≤ nm i ∧ nm i ≤ 25) (hs : s = 0 ∨ lOf (b (s.toNat - 1)) = -1) : rc (rpB b s l nm L) (m - l + L).toNat = rc b m.toNat := by
  obtain ⟨S, rfl⟩ : ∃ S : Nat, s = S := ⟨s.toNat, by omega⟩
  obtain ⟨l', rfl⟩ : ∃ l' : Nat, l = l' := ⟨l.toNat, by omega⟩
  obtain ⟨L', rfl⟩ : ∃ L' : Nat, L = L' := ⟨L.toNat, by omega⟩
  have := rc_rpl (b := b) (nm := nm) (s := S) (l := l') (L := L') (by omega) (by omega) (fun i h1 h2 => hb i (by omega) (by omega)) (fun i hi => hn i (by omega)) (by
    rcases hs with z | z
    · exact Or.inl (by omega)
    · exact Or.inr (by rw [show ((S : Int)).toNat = S by omega] at z; exact z)) (m - S - l').toNat
  rw [show (m - (l' : Int) + (L' : Int)).toNat = S + L' + (m - S - l').toNat by omega, show m.toNat = S + l' + (m - S - l').toNat by omega]
  exact this
def rlP (h : HP) (k n : Nat) (i : Int) (h' : HP) : Prop := (∀ a, a ≠ 20 → h' a = h a) ∧ ∀ b : Nat, h' 20 b = if h 22 k ≤ b ∧ (b : Int) < h 22 k + i then 97 + nmF h n (b - (h 22 k).toNat) else cpy h 20 20 (h 22 k + h 23 k).toNat (h 22 k + h 8 n).toNat (h 19 4 - (h 22 k + h 23 k)).toNat 20 b
set_option maxRecDepth 100000 in
set_option maxHeartbeats 4000000 in
theorem l_Line_replace (h : HP) (hL : CL0 h) (k n : Nat) (hk : (k : Int) < h 19 5) (hn : nmIn h n) (h92 : rpS h k n ≤ 92) : ∀ (d : Nat) (i : Int) (h' : HP), h 8 n - i < d → 0 ≤ i → i ≤ h 8 n → rlP h k n i h' → Wn Z4 mLine_replace SH0 84 [some (.inr (.inr 19)), some (.inl k), some (.inr (.inr 6)), some (.inl n), some (.inl (h 22 k)), some (.inl (h 22 k + h 23 k)), some (.inl (h 8 n)), some (.inl i)] [] h' (rtV (qRpl h k n)) := by
  obtain ⟨⟨n1, n2, n3⟩, n4⟩ := hn
  have hR := hL.2.2.2.1
  have r10 := hR.2.1
  have hS := hL.2.1
  obtain ⟨k1, k2, k3, k4⟩ := hR.2.2.1 k hk
  have en : ((n : Int)).toNat = n := by omega
  have ekk : ((k : Int)).toNat = k := by omega
  unfold rpS at h92
  intro d
  induction d with
  | zero => intro i h' h1 h2 h3; omega
  | succ d ih =>
    intro i h' h1 h2 h3 h4
    obtain ⟨f1, f2⟩ := h4
    have e7 : h' 7 = h 7 := f1 7 (by decide)
    have e19 : h' 19 = h 19 := f1 19 (by decide)
    have e23 : h' 23 = h 23 := f1 23 (by decide)
    refine go [84] 400 (k := ?_)
    simp (config := {maxSteps := 1000000}) only [↓pI_c, ↓pR_c, ↓pJ_c, ↓pV_c, ↓popN_0, ↓popN_s, ↓lI_0, ↓lR_0, ↓lJ_0, ↓lI_s, ↓lR_s, ↓lJ_s, ↓okSt_0, ↓okSt_I, ↓okSt_R, ↓okSt_N, ↓okSt_s, ↓rtI_s, ↓rtV_n, ↓brP_t, ↓brP_f, ↓sLine_replace_0, ↓sLine_replace_1, ↓sLine_replace_2, ↓sLine_replace_5, ↓sLine_replace_6, ↓rf_19_4, ↓sLine_replace_9, ↓sLine_replace_10, ↓rf_19_3, ↓sLine_replace_13, ↓sLine_replace_14, ↓sLine_replace_15, ↓sLine_replace_16, ↓sLine_replace_17, ↓rf_6_1, ↓sLine_replace_20, ↓sLine_replace_21, ↓sLine_replace_22, ↓sLine_replace_23, ↓sLine_replace_25, ↓sLine_replace_28, ↓sLine_replace_29, ↓sLine_replace_30, ↓rf_19_2, ↓sLine_replace_33, ↓sLine_replace_34, ↓sLine_replace_35, ↓sLine_replace_37, ↓sLine_replace_39, ↓sLine_replace_40, ↓sLine_replace_43, ↓sLine_replace_44, ↓sLine_replace_45, ↓sLine_replace_46, ↓sLine_replace_48, ↓sLine_replace_49, ↓sLine_replace_52, ↓sLine_replace_53, ↓sLine_replace_54, ↓sLine_replace_56, ↓sLine_replace_57, ↓rf_19_0, ↓sLine_replace_60, ↓sLine_replace_62, ↓sLine_replace_63, ↓sLine_replace_66, ↓sLine_replace_68, ↓sLine_replace_70, ↓sLine_replace_71, ↓sLine_replace_72, ↓sLine_replace_75, ↓sLine_replace_77, ↓sLine_replace_78, ↓sLine_replace_81, ↓sLine_replace_82, ↓sLine_replace_84, ↓sLine_replace_86, ↓sLine_replace_88, ↓sLine_replace_91, ↓sLine_replace_92, ↓sLine_replace_95, ↓sLine_replace_97, ↓sLine_replace_99, ↓sLine_replace_100, ↓sLine_replace_102, ↓sLine_replace_103, ↓rf_6_0, ↓sLine_replace_106, ↓sLine_replace_107, ↓sLine_replace_109, ↓sLine_replace_110, ↓sLine_replace_112, ↓sLine_replace_113, ↓sLine_replace_114, ↓sLine_replace_115, ↓sLine_replace_116, ↓sLine_replace_119, ↓sLine_replace_122, ↓sLine_replace_123, ↓sLine_replace_124, ↓sLine_replace_127, ↓sLine_replace_128, ↓sLine_replace_131, ↓sLine_replace_132, ↓sLine_replace_133, ↓sLine_replace_134, ↓sLine_replace_136, ↓sLine_replace_137, ↓sLine_replace_140, ↓sLine_replace_141, ↓sLine_replace_144, ↓ln_7, ↓ln_8, ↓ln_20, ↓ln_22, ↓ln_23, List.set_cons_zero, List.set_cons_succ, List.length_cons, List.length_nil, List.contains_cons, List.contains_nil, cat1, brP_d, true_and, and_true, not_false_eq_true, not_true_eq_false, if_true, if_false, Bool.or_false, Bool.false_or, Bool.or_true, Bool.true_or, Bool.false_eq_true, Bool.or_self, false_implies, true_implies, forall_const, and_self, implies_true, true_or, or_true, or_false, false_or, or_self, Classical.not_not, Int.reduceAdd, Int.reduceSub, Int.reduceMul, Int.reduceNeg, Int.reduceToNat, Int.reduceLT, Int.reduceLE, Int.reduceEq, Int.reduceNe, Int.reduceNatCast', Nat.reduceAdd, Nat.reduceSub, Nat.reduceLeDiff, Nat.reduceLT, Nat.reduceEqDiff, Nat.reduceBEq, reduceIte, nx_w, nx_c, up_n, up_s, up_f, ne_eq, Nat.reduceEqDiff, Option.some.injEq, Prod.mk.injEq, exists_eq_left', reduceCtorEq, ar_8, ar_20, ar_22, ar_23, ob_19, e7, e19, e23, en, ekk]
    refine ⟨fun c1 => ?_, fun c1 => ?_⟩
    · rw [wr_id (x := h 19 4 - h 23 k) (by omega) (by omega), wr_id (x := h 19 4 - h 23 k + h 8 n) (by omega) (by omega)]
      obtain rfl : i = h 8 n := by omega
      have b20 : ∀ j : Nat, (j : Int) < rpS h k n → h' 20 j = rpF h k n j := by
        intro j hj
        unfold rpS at hj
        rw [f2 j]
        unfold rpF
        by_cases z1 : (j : Int) < h 22 k
        · rw [rpl1 z1, if_neg (by omega)]
          unfold cpy
          rw [if_neg (by omega)]
        · by_cases z2 : (j : Int) < h 22 k + h 8 n
          · rw [rpl2 (by omega) z2, if_pos (by omega)]
          · rw [rpl3 (by omega) (by omega), if_neg (by omega)]
            unfold cpy
            rw [if_pos (by omega)]
            congr 1
            omega
      have hrc : rc (rpF h k n) (rpS h k n).toNat = h 19 5 := by
        rw [hL.2.2.2.2.1]
        exact rc_rpI k1 k2 (by omega) k3 k4 n4 (runs_before hR hk)
      have u20 : up h' 19 4 (rpS h k n) 20 = h' 20 := up_ne (by decide)
      refine ⟨by omega, trV_use (t_Line_split (up h' 19 4 (rpS h k n)) (by rw [up_s]; unfold rpS; omega) ?_) ?_⟩
      · rw [up_s, u20, rc_congr (rpS h k n).toNat (f := rpF h k n) (fun j hj => b20 j (by omega)), hrc]
        exact r10
      · rintro h2 ⟨⟨s1, s2⟩, s3, s4, s5⟩
        rw [up_s, u20] at s3 s4 s5
        have t20 : h2 20 = h' 20 := by rw [s1 20 (by decide) (by decide) (by decide) (by decide), up_ne (by decide)]
        have ex := runs_rpl (g' := h2) hR hk (L := h 8 n) (by omega) n4
        obtain ⟨u1, u2⟩ := runs_unique (runs_congr (g' := h2) ex (fun j hj => b20 j (by unfold rpS; omega))) s4
        refine ⟨fun a a1 a2 a3 a4 a5 => ?_, fun b b1 b2 => ?_, ?_, fun j hj => ⟨?_, ?_⟩, u1, fun j hj => u2 j hj, ?_, ?_⟩
        · rw [s1 a a1 a3 a4 a5, up_ne a1, f1 a a2]
        · rw [s2 b b2, up_f b1, e19]
        · rw [s2 4 (by decide), up_s]
        · rw [t20]; exact b20 j hj
        · rw [s3 j hj, b20 j hj]
        · rw [t20]; exact s4
        · rw [t20]; exact s5
    · rw [wr_id (x := h 22 k + i) (by omega) (by omega), wr_id (x := (n : Int) * 12) (by omega) (by omega), wr_id (x := (n : Int) * 12 + i) (by omega) (by omega), wr_id (x := i + 1) (by omega) (by omega)]
      have q4 := n4 i.toNat (by omega)
      have e : h 7 ((n : Int) * 12 + i).toNat = nmF h n i.toNat := by
        unfold nmF
        congr 1
        omega
      rw [e, wr_id (x := 97 + nmF h n i.toNat) (by omega) (by omega)]
      refine ⟨by omega, by omega, ih (i + 1) _ (by omega) (by omega) (by omega) ⟨fun a ha => by rw [up_ne ha]; exact f1 a ha, fun b => ?_⟩⟩
      rw [up_a]
      by_cases z : b = (h 22 k + i).toNat
      · rw [if_pos z, if_pos (by omega)]
        congr 2
        omega
      · rw [if_neg z, f2 b]
        by_cases z2 : h 22 k ≤ b ∧ (b : Int) < h 22 k + i
        · rw [if_pos z2, if_pos (by omega)]
        · rw [if_neg z2, if_neg (by omega)]
set_option maxRecDepth 100000 in
set_option maxHeartbeats 4000000 in
theorem t_Line_replace (h : HP) (hL : CL0 h) (k n : Nat) (hk : (k : Int) < h 19 5) (hn : nmIn h n) (h92 : rpS h k n ≤ 92) : trV mLine_replace [.inr (.inr 19), .inl k, .inr (.inr 6), .inl n] SH0 h (qRpl h k n) := by
  have hn' := hn
  obtain ⟨⟨n1, n2, n3⟩, n4⟩ := hn'
  have hR := hL.2.2.2.1
  have r10 := hR.2.1
  have hS := hL.2.1
  obtain ⟨k1, k2, k3, k4⟩ := hR.2.2.1 k hk
  have en : ((n : Int)).toNat = n := by omega
  have ekk : ((k : Int)).toNat = k := by omega
  have nn : ¬ (n : Int) = -1 := by omega
  have h92' := h92
  unfold rpS at h92'
  refine startV [some (.inr (.inr 19)), some (.inl k), some (.inr (.inr 6)), some (.inl n), none, none, none, none] mLine_replace_c (go [84] 400 (k := ?_))
  simp (config := {maxSteps := 1000000}) only [↓pI_c, ↓pR_c, ↓pJ_c, ↓pV_c, ↓popN_0, ↓popN_s, ↓lI_0, ↓lR_0, ↓lJ_0, ↓lI_s, ↓lR_s, ↓lJ_s, ↓okSt_0, ↓okSt_I, ↓okSt_R, ↓okSt_N, ↓okSt_s, ↓rtI_s, ↓rtV_n, ↓brP_t, ↓brP_f, ↓sLine_replace_0, ↓sLine_replace_1, ↓sLine_replace_2, ↓sLine_replace_5, ↓sLine_replace_6, ↓rf_19_4, ↓sLine_replace_9, ↓sLine_replace_10, ↓rf_19_3, ↓sLine_replace_13, ↓sLine_replace_14, ↓sLine_replace_15, ↓sLine_replace_16, ↓sLine_replace_17, ↓rf_6_1, ↓sLine_replace_20, ↓sLine_replace_21, ↓sLine_replace_22, ↓sLine_replace_23, ↓sLine_replace_25, ↓sLine_replace_28, ↓sLine_replace_29, ↓sLine_replace_30, ↓rf_19_2, ↓sLine_replace_33, ↓sLine_replace_34, ↓sLine_replace_35, ↓sLine_replace_37, ↓sLine_replace_39, ↓sLine_replace_40, ↓sLine_replace_43, ↓sLine_replace_44, ↓sLine_replace_45, ↓sLine_replace_46, ↓sLine_replace_48, ↓sLine_replace_49, ↓sLine_replace_52, ↓sLine_replace_53, ↓sLine_replace_54, ↓sLine_replace_56, ↓sLine_replace_57, ↓rf_19_0, ↓sLine_replace_60, ↓sLine_replace_62, ↓sLine_replace_63, ↓sLine_replace_66, ↓sLine_replace_68, ↓sLine_replace_70, ↓sLine_replace_71, ↓sLine_replace_72, ↓sLine_replace_75, ↓sLine_replace_77, ↓sLine_replace_78, ↓sLine_replace_81, ↓sLine_replace_82, ↓sLine_replace_84, ↓sLine_replace_86, ↓sLine_replace_88, ↓sLine_replace_91, ↓sLine_replace_92, ↓sLine_replace_95, ↓sLine_replace_97, ↓sLine_replace_99, ↓sLine_replace_100, ↓sLine_replace_102, ↓sLine_replace_103, ↓rf_6_0, ↓sLine_replace_106, ↓sLine_replace_107, ↓sLine_replace_109, ↓sLine_replace_110, ↓sLine_replace_112, ↓sLine_replace_113, ↓sLine_replace_114, ↓sLine_replace_115, ↓sLine_replace_116, ↓sLine_replace_119, ↓sLine_replace_122, ↓sLine_replace_123, ↓sLine_replace_124, ↓sLine_replace_127, ↓sLine_replace_128, ↓sLine_replace_131, ↓sLine_replace_132, ↓sLine_replace_133, ↓sLine_replace_134, ↓sLine_replace_136, ↓sLine_replace_137, ↓sLine_replace_140, ↓sLine_replace_141, ↓sLine_replace_144, ↓ln_7, ↓ln_8, ↓ln_20, ↓ln_22, ↓ln_23, List.set_cons_zero, List.set_cons_succ, List.length_cons, List.length_nil, List.contains_cons, List.contains_nil, cat1, brP_d, true_and, and_true, not_false_eq_true, not_true_eq_false, if_true, if_false, Bool.or_false, Bool.false_or, Bool.or_true, Bool.true_or, Bool.false_eq_true, Bool.or_self, false_implies, true_implies, forall_const, and_self, implies_true, true_or, or_true, or_false, false_or, or_self, Classical.not_not, Int.reduceAdd, Int.reduceSub, Int.reduceMul, Int.reduceNeg, Int.reduceToNat, Int.reduceLT, Int.reduceLE, Int.reduceEq, Int.reduceNe, Int.reduceNatCast', Nat.reduceAdd, Nat.reduceSub, Nat.reduceLeDiff, Nat.reduceLT, Nat.reduceEqDiff, Nat.reduceBEq, reduceIte, nx_w, nx_c, up_n, up_s, up_f, ne_eq, Nat.reduceEqDiff, Option.some.injEq, Prod.mk.injEq, exists_eq_left', reduceCtorEq, ar_8, ar_20, ar_22, ar_23, ob_19, en, ekk, nn, ar_20.1]
  rw [wr_id (x := h 19 4 - h 23 k) (by omega) (by omega), wr_id (x := h 19 4 - h 23 k + h 8 n) (by omega) (by omega), wr_id (x := h 22 k + h 23 k) (by omega) (by omega), wr_id (x := h 22 k + h 8 n) (by omega) (by omega), wr_id (x := h 19 4 - (h 22 k + h 23 k)) (by omega) (by omega)]
  refine ⟨by omega, by omega, fun _ => ⟨by omega, by omega, by omega, 92, 92, rfl, rfl, by omega, ?_⟩, fun c => absurd h92' c⟩
  exact l_Line_replace h hL k n hk hn h92 ((h 8 n).toNat + 1) 0 _ (by omega) (by omega) (by omega) ⟨fun a ha => cpy_ne ha, fun b => by rw [if_neg (by omega)]⟩
