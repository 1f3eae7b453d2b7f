/-! proposals: what they are; the class's side -/
theorem mL_get (h : HP) : ∀ n i : Nat, i < (mL h n).length → (mL h n).getD i 0 < n ∧ ∀ j, j < i → (mL h n).getD j 0 < (mL h n).getD i 0
  | 0, i, hi => absurd hi (Nat.not_lt_zero i)
  | n + 1, i, hi => by
    rcases mL_s h n with ⟨_, e⟩ | ⟨_, e⟩
    · rw [e] at hi ⊢
      have := mL_get h n i hi
      exact ⟨by omega, this.2⟩
    · rw [e] at hi ⊢
      simp only [List.length_append, List.length_cons, List.length_nil] at hi
      by_cases z : i = (mL h n).length
      · have e1 : (mL h n ++ [n]).getD i 0 = n := by
          subst z
          simp only [List.getD_eq_getElem?_getD, List.getElem?_append_right (Nat.le_refl _), Nat.sub_self, List.getElem?_cons_zero, Option.getD_some]
        rw [e1]
        refine ⟨by omega, fun j hj => ?_⟩
        have := mL_get h n j (by omega)
        simp only [List.getD_eq_getElem?_getD] at this ⊢
        rw [List.getElem?_append_left (by omega)]
        exact this.1
      · have := mL_get h n i (by omega)
        simp only [List.getD_eq_getElem?_getD] at this ⊢
        rw [List.getElem?_append_left (by omega)]
        refine ⟨by omega, fun j hj => ?_⟩
        rw [List.getElem?_append_left (by omega)]
        exact this.2 j hj
theorem mT_in {h : HP} {i : Nat} (hi : (i : Int) < mN h) (h0 : 0 ≤ h 19 5) : (mT h i : Int) < h 19 5 ∧ ∀ j, j < i → mT h j < mT h i := by
  have := mL_get h (h 19 5).toNat i (by unfold mN at hi; omega)
  refine ⟨?_, this.2⟩
  have e : mT h i < (h 19 5).toNat := this.1
  omega
/-- the one unknown word is the q-th of those meant -/
def u3 (g : HP) (q : Nat) : Prop := (q : Int) < mN g ∧ mW g q = -1 ∧ (∀ j : Nat, j < q → ¬ mW g j = -1) ∧ cntE (mW g) (-1) (mN g).toNat = 1
theorem u3_uni {g : HP} {q q' : Nat} (h1 : u3 g q) (h2 : u3 g q') : q = q' := by
  rcases Nat.lt_trichotomy q q' with z | z | z
  · exact absurd h1.2.1 (h2.2.2.1 q z)
  · exact z
  · exact absurd h2.2.1 (h1.2.2.1 q' z)
theorem cntE_1 {f : Nat → Int} {w : Int} : ∀ n i j : Nat, i < n → j < n → f i = w → f j = w → i ≠ j → 2 ≤ cntE f w n
  | 0, i, j, hi, _, _, _, _ => absurd hi (Nat.not_lt_zero i)
  | n + 1, i, j, hi, hj, ei, ej, hne => by
    simp only [cntE]
    have one : ∀ n i : Nat, i < n → f i = w → 1 ≤ cntE f w n := by
      intro n i hi ei
      rcases Int.lt_or_le 0 (cntE f w n) with z | z
      · omega
      · have := cntE_le f w n
        exact absurd ei (cntE_0 n (by omega) i hi)
    by_cases z1 : i = n
    · subst z1
      rw [if_pos ei]
      have := one i j (by omega) ej
      omega
    · by_cases z2 : j = n
      · subst z2
        rw [if_pos ej]
        have := one j i (by omega) ei
        omega
      · have := cntE_1 n i j (by omega) (by omega) ei ej hne
        split <;> omega
theorem u3_other {g : HP} {q : Nat} (h1 : u3 g q) {j : Nat} (hj : (j : Int) < mN g) (hne : j ≠ q) : ¬ mW g j = -1 := by
  intro e
  have := cntE_1 (f := mW g) (w := -1) (mN g).toNat j q (by omega) (by have := h1.1; omega) e h1.2.1 hne
  have := h1.2.2.2
  omega
theorem verd_u3 {g : HP} {c p x : Int} (h : verdR g (mN g) (fun i => mT g i) (mW g) 3 c p x) : ∃ q : Nat, u3 g q ∧ p = q ∧ c = mT g q := by
  rcases h with ⟨_, a, _⟩ | ⟨a1, a2, a3, a4, q, a5, a6, a7, a8, a9⟩ | ⟨_, _, a⟩
  · omega
  · refine ⟨q, ⟨a5, a8, a9, ?_⟩, a6, a7⟩
    by_cases z : 1 < cntE (mW g) (-1) (mN g).toNat
    · rw [if_pos z] at a4; omega
    · omega
  · rcases a with ⟨_, a, _⟩ | ⟨_, q, _, _, _, a, _⟩ | ⟨_, _, _, _, a⟩
    · omega
    · omega
    · split at a <;> omega
noncomputable def rpl (f : Nat → Int) (q : Nat) (w : Int) : Nat → Int := fun i => if i = q then w else f i
noncomputable def nq (g : HP) (k : Nat) (w : Int) : Int := @dite _ (∃ x, ∃ d, nnP g w k (g 6 3) x d) (Classical.propDecidable _) (fun e => Classical.choose e) (fun _ => -1)
theorem nq_of {g : HP} {k : Nat} {w x d : Int} (h : nnP g w k (g 6 3) x d) : x = nq g k w := by
  have e : ∃ x, ∃ d, nnP g w k (g 6 3) x d := ⟨x, d, h⟩
  unfold nq
  rw [dif_pos e]
  obtain ⟨d', hd⟩ := Classical.choose_spec e
  exact (nnP_uni h hd).1
theorem nn_some {g : HP} (hN : CN g) {k : Nat} {w x d : Int} (h : nnP g w k (g 6 3) x d) (hw : 0 ≤ w ∧ w < g 10 4) : (0 ≤ nq g k w ∧ nq g k w < g 6 3) ∧ x = nq g k w ∧ d = dN g k (nq g k w).toNat := by
  have e := nq_of h
  rcases h with ⟨rfl, a⟩ | ⟨q, a1, rfl, a2, a3, a4, a5⟩
  · obtain ⟨i, i1, i2⟩ := hN.2.2.2.2 w hw.1 hw.2
    exact absurd i2 (a i i1)
  · rw [← e]
    exact ⟨by omega, rfl, by rw [show ((q : Int)).toNat = q by omega]; exact a3⟩
def seenW (g : HP) (w : Nat) : Prop := ¬ g 11 w = 3 ∧ ¬ g 13 w = 0
noncomputable def candW (g : HP) (q w : Nat) : Prop := seenW g w ∧ dN g (mT g q) (nq g (mT g q) w).toNat ≤ g 4 5 ∧ dN g (mT g q) (nq g (mT g q) w).toNat < g 23 (mT g q) * g 4 0 + g 8 (nq g (mT g q) w).toNat * g 4 1
noncomputable def wfit (g : HP) (q w : Nat) : Prop := gdW g (rpl (mW g) q w) (mN g) ∧ ∃ r : Nat, (r : Int) < g 15 3 ∧ fitR g (rpl (mW g) q w) (mN g) r
noncomputable def wfI (g : HP) (q w : Nat) : Int := @ite _ (wfit g q w) (Classical.propDecidable _) 1 0
def bef (c f d x : Int) : Prop := c < d ∨ (c = d ∧ ¬ f = 0 ∧ x = 0)
noncomputable def pl (fd ff : Nat → Int) (c f : Int) : Nat → Nat
  | 0 => 0
  | m + 1 => @ite _ (bef c f (fd m) (ff m)) (Classical.propDecidable _) (pl fd ff c f m) (m + 1)
theorem pl_s (fd ff : Nat → Int) (c f : Int) (m : Nat) : (bef c f (fd m) (ff m) ∧ pl fd ff c f (m + 1) = pl fd ff c f m) ∨ (¬ bef c f (fd m) (ff m) ∧ pl fd ff c f (m + 1) = m + 1) := by
  by_cases e : bef c f (fd m) (ff m)
  · exact Or.inl ⟨e, by simp only [pl, if_pos e]⟩
  · exact Or.inr ⟨e, by simp only [pl, if_neg e]⟩
theorem pl_le (fd ff : Nat → Int) (c f : Int) : ∀ m : Nat, pl fd ff c f m ≤ m
  | 0 => Nat.le_refl _
  | m + 1 => by
    have := pl_le fd ff c f m
    rcases pl_s fd ff c f m with ⟨_, e⟩ | ⟨_, e⟩ <;> omega
theorem pl_congr {fd ff fd' ff' : Nat → Int} {c f : Int} : ∀ m : Nat, (∀ i, i < m → fd' i = fd i ∧ ff' i = ff i) → pl fd' ff' c f m = pl fd ff c f m
  | 0, _ => rfl
  | m + 1, h => by
    have := pl_congr (c := c) (f := f) m (fun i hi => h i (by omega))
    simp only [pl]
    rw [this, (h m (by omega)).1, (h m (by omega)).2]
def insF (f : Nat → Int) (p : Nat) (x : Int) : Nat → Int := fun i => if i < p then f i else if i = p then x else f (i - 1)
noncomputable def insS (s : Nat × (Nat → Int) × (Nat → Int) × (Nat → Int)) (w d f : Int) : Nat × (Nat → Int) × (Nat → Int) × (Nat → Int) := (s.1 + 1, insF s.2.1 (pl s.2.2.1 s.2.2.2 d f s.1) w, insF s.2.2.1 (pl s.2.2.1 s.2.2.2 d f s.1) d, insF s.2.2.2 (pl s.2.2.1 s.2.2.2 d f s.1) f)
noncomputable def prS (g : HP) (q : Nat) : Nat → Nat × (Nat → Int) × (Nat → Int) × (Nat → Int)
  | 0 => (0, fun _ => 0, fun _ => 0, fun _ => 0)
  | n + 1 => @ite _ (candW g q n) (Classical.propDecidable _) (insS (prS g q n) n (dN g (mT g q) (nq g (mT g q) n).toNat) (wfI g q n)) (prS g q n)
theorem prS_s (g : HP) (q n : Nat) : (candW g q n ∧ prS g q (n + 1) = insS (prS g q n) n (dN g (mT g q) (nq g (mT g q) n).toNat) (wfI g q n)) ∨ (¬ candW g q n ∧ prS g q (n + 1) = prS g q n) := by
  by_cases e : candW g q n
  · exact Or.inl ⟨e, by simp only [prS, if_pos e]⟩
  · exact Or.inr ⟨e, by simp only [prS, if_neg e]⟩
theorem prS_le (g : HP) (q : Nat) : ∀ n : Nat, (prS g q n).1 ≤ n
  | 0 => Nat.le_refl _
  | n + 1 => by
    have := prS_le g q n
    rcases prS_s g q n with ⟨_, e⟩ | ⟨_, e⟩
    · rw [e]; show (prS g q n).1 + 1 ≤ n + 1; omega
    · rw [e]; omega
def prA (m : Int) (fw fd ff : Nat → Int) (s : Nat × (Nat → Int) × (Nat → Int) × (Nat → Int)) : Prop := m = s.1 ∧ ∀ i : Nat, i < s.1 → fw i = s.2.1 i ∧ fd i = s.2.2.1 i ∧ ff i = s.2.2.2 i
/-- the places before p as they were, those behind it moved by one -/
def shP (f0 f : Nat → Int) (m p : Nat) : Prop := (∀ i, i < p → f i = f0 i) ∧ ∀ i, p < i → i ≤ m → f i = f0 (i - 1)
theorem shP_s {f0 f : Nat → Int} {m p : Nat} {x : Int} (h : shP f0 f m (p + 1)) (hx : x = f p) : shP f0 (fun b => if b = p + 1 then x else f b) m p := by
  refine ⟨fun i hi => ?_, fun i h1 h2 => ?_⟩
  · show (if i = p + 1 then x else f i) = _
    rw [if_neg (by omega)]
    exact h.1 i (by omega)
  · show (if i = p + 1 then x else f i) = _
    by_cases e : i = p + 1
    · rw [if_pos e, hx, e]
      exact h.1 p (by omega)
    · rw [if_neg e]
      exact h.2 i (by omega) h2
theorem prA_ins {m : Int} {fw fd ff fw' fd' ff' : Nat → Int} {s : Nat × (Nat → Int) × (Nat → Int) × (Nat → Int)} {w d f : Int} {p : Nat} (h : prA m fw fd ff s) (hp : p = pl fd ff d f s.1) (h1 : shP fw fw' s.1 p) (h2 : shP fd fd' s.1 p) (h3 : shP ff ff' s.1 p) (fw2 fd2 ff2 : Nat → Int) (e1 : ∀ b, fw2 b = if b = p then w else fw' b) (e2 : ∀ b, fd2 b = if b = p then d else fd' b) (e3 : ∀ b, ff2 b = if b = p then f else ff' b) : prA (m + 1) fw2 fd2 ff2 (insS s w d f) := by
  obtain ⟨a1, a2⟩ := h
  have hp' : p = pl s.2.2.1 s.2.2.2 d f s.1 := by rw [hp]; exact pl_congr _ (fun i hi => ⟨(a2 i hi).2.1, (a2 i hi).2.2⟩)
  have key : ∀ (F F' F2 G : Nat → Int) (x : Int), shP F F' s.1 p → (∀ i, i < s.1 → F i = G i) → (∀ b, F2 b = if b = p then x else F' b) → ∀ i, i < s.1 + 1 → F2 i = insF G p x i := by
    intro F F' F2 G x k1 k2 k3 i hi
    rw [k3]
    unfold insF
    by_cases z : i < p
    · rw [if_neg (by omega), if_pos z, k1.1 i z]
      have := pl_le s.2.2.1 s.2.2.2 d f s.1
      exact k2 i (by omega)
    · rw [if_neg z]
      by_cases z2 : i = p
      · rw [if_pos z2, if_pos z2]
      · rw [if_neg z2, if_neg z2, k1.2 i (by omega) (by omega)]
        exact k2 (i - 1) (by omega)
  refine ⟨by show m + 1 = ((s.1 + 1 : Nat) : Int); omega, fun i hi => ?_⟩
  unfold insS at hi ⊢
  rw [← hp']
  exact ⟨key _ _ _ _ _ h1 (fun i hi => (a2 i hi).1) e1 i hi, key _ _ _ _ _ h2 (fun i hi => (a2 i hi).2.1) e2 i hi, key _ _ _ _ _ h3 (fun i hi => (a2 i hi).2.2) e3 i hi⟩
set_option maxRecDepth 100000 in
set_option maxHeartbeats 4000000 in
theorem t_Prop_isBefore (h : HP) (c f i : Int) (hi : 0 ≤ i ∧ i < 60) : trI mProp_isBefore [.inr (.inr 27), .inl c, .inl f, .inl i] SH0 h (fun r h' => h' = h ∧ bP (bef c f (h 31 i.toNat) (h 32 i.toNat)) r) := by
  refine startI [some (.inr (.inr 27)), some (.inl c), some (.inl f), some (.inl i)] mProp_isBefore_c (go [9999] 400 (k := ?_))
  simp (config := {maxSteps := 1000000}) only [↓pI_c, ↓pR_c, ↓pJ_c, ↓pV_c, ↓popN_0, ↓popN_s, ↓lI_0, ↓lR_0, ↓lJ_0, ↓lI_s, ↓lR_s, ↓lJ_s, ↓okSt_0, ↓okSt_I, ↓okSt_R, ↓okSt_N, ↓okSt_s, ↓rtI_s, ↓rtV_n, ↓brP_t, ↓brP_f, ↓sProp_isBefore_0, ↓sProp_isBefore_1, ↓sProp_isBefore_2, ↓rf_27_3, ↓sProp_isBefore_5, ↓sProp_isBefore_6, ↓sProp_isBefore_7, ↓sProp_isBefore_10, ↓sProp_isBefore_11, ↓sProp_isBefore_12, ↓sProp_isBefore_15, ↓sProp_isBefore_16, ↓sProp_isBefore_17, ↓sProp_isBefore_20, ↓sProp_isBefore_21, ↓sProp_isBefore_24, ↓sProp_isBefore_25, ↓rf_27_4, ↓sProp_isBefore_28, ↓sProp_isBefore_29, ↓sProp_isBefore_30, ↓sProp_isBefore_33, ↓sProp_isBefore_34, ↓sProp_isBefore_37, ↓sProp_isBefore_38, ↓ln_31, ↓ln_32, List.set_cons_zero, List.set_cons_succ, List.length_cons, List.length_nil, List.contains_cons, List.contains_nil, cat1, brP_d, true_and, and_true, not_false_eq_true, not_true_eq_false, if_true, if_false, Bool.or_false, Bool.false_or, Bool.or_true, Bool.true_or, Bool.false_eq_true, Bool.or_self, false_implies, true_implies, forall_const, and_self, implies_true, true_or, or_true, or_false, false_or, or_self, Classical.not_not, Int.reduceAdd, Int.reduceSub, Int.reduceMul, Int.reduceNeg, Int.reduceToNat, Int.reduceLT, Int.reduceLE, Int.reduceEq, Int.reduceNe, Int.reduceNatCast', Nat.reduceAdd, Nat.reduceSub, Nat.reduceLeDiff, Nat.reduceLT, Nat.reduceEqDiff, Nat.reduceBEq, reduceIte, nx_w, nx_c, up_n, up_s, up_f, ne_eq, Nat.reduceEqDiff, Option.some.injEq, Prod.mk.injEq, exists_eq_left', reduceCtorEq]
  simp only [bP, bef]
  grind
def piF (h0 h : HP) : Prop := (∀ a, a ≠ 27 → a ≠ 30 → a ≠ 31 → a ≠ 32 → h a = h0 a) ∧ ∀ b, b ≠ 5 → h 27 b = h0 27 b
def bA (s : Nat × (Nat → Int) × (Nat → Int) × (Nat → Int)) : Prop := ∀ i : Nat, i < s.1 → s.2.2.2 i = 0 ∨ s.2.2.2 i = 1
theorem bA_ins {s : Nat × (Nat → Int) × (Nat → Int) × (Nat → Int)} {w d f : Int} (h : bA s) (hf : f = 0 ∨ f = 1) : bA (insS s w d f) := by
  intro i hi
  have := pl_le s.2.2.1 s.2.2.2 d f s.1
  have hi' : i < s.1 + 1 := hi
  show insF _ _ _ i = 0 ∨ insF _ _ _ i = 1
  unfold insF
  by_cases z : i < pl s.2.2.1 s.2.2.2 d f s.1
  · rw [if_pos z]; exact h i (by omega)
  · rw [if_neg z]
    by_cases z2 : i = pl s.2.2.1 s.2.2.2 d f s.1
    · rw [if_pos z2]; exact hf
    · rw [if_neg z2]; exact h (i - 1) (by omega)
theorem wfI_b (g : HP) (q w : Nat) : wfI g q w = 0 ∨ wfI g q w = 1 := by
  unfold wfI
  split
  · exact Or.inr rfl
  · exact Or.inl rfl
theorem prS_b (g : HP) (q : Nat) : ∀ n : Nat, bA (prS g q n)
  | 0 => fun i hi => absurd hi (Nat.not_lt_zero i)
  | n + 1 => by
    rcases prS_s g q n with ⟨_, e⟩ | ⟨_, e⟩
    · rw [e]; exact bA_ins (prS_b g q n) (wfI_b g q n)
    · rw [e]; exact prS_b g q n
def qIns (h0 : HP) (s : Nat × (Nat → Int) × (Nat → Int) × (Nat → Int)) (h' : HP) : Prop := piF h0 h' ∧ prA (h' 27 5) (h' 30) (h' 31) (h' 32) s
set_option maxRecDepth 100000 in
set_option maxHeartbeats 4000000 in
theorem l_Prop_insert (h0 : HP) (w c f : Int) (s : Nat × (Nat → Int) × (Nat → Int) × (Nat → Int)) (hf : f = 0 ∨ f = 1) (hs : prA (h0 27 5) (h0 30) (h0 31) (h0 32) s) (hb : bA s) (hs60 : s.1 < 60) : ∀ (d p : Nat) (h : HP), p < d → p ≤ s.1 → pl (h0 31) (h0 32) c f p = pl (h0 31) (h0 32) c f s.1 → (∀ a, a ≠ 30 → a ≠ 31 → a ≠ 32 → h a = h0 a) → shP (h0 30) (h 30) s.1 p → shP (h0 31) (h 31) s.1 p → shP (h0 32) (h 32) s.1 p → Wn Z4 mProp_insert SH0 6 [some (.inr (.inr 27)), some (.inl w), some (.inl c), some (.inl f), some (.inl p)] [] h (rtV (qIns h0 (insS s w c f))) := by
  intro d
  induction d with
  | zero => intro p h h1 h2; omega
  | succ d ih =>
    intro p h h1 h2 h3 h4 h5 h6 h7
    have g27 : h 27 = h0 27 := h4 27 (by decide) (by decide) (by decide)
    have e5 := hs.1
    have ep : ((p : Int)).toNat = p := by omega
    have fin : p = pl (h0 31) (h0 32) c f s.1 → qIns h0 (insS s w c f) (up (up (up (up h 30 p w) 31 p c) 32 p f) 27 5 (h0 27 5 + 1)) := by
      intro hp
      refine ⟨⟨fun a a1 a2 a3 a4 => by rw [up_ne a1, up_ne a4, up_ne a3, up_ne a2]; exact h4 a a2 a3 a4, fun b hb => by rw [up_f hb, up_n (by decide), up_n (by decide), up_n (by decide), g27]⟩, ?_⟩
      rw [up_s]
      exact prA_ins hs hp h5 h6 h7 _ _ _ (fun b => by rw [up_n (by decide), up_n (by decide), up_n (by decide), up_a]) (fun b => by rw [up_n (by decide), up_n (by decide), up_a, up_n (by decide)]) (fun b => by rw [up_n (by decide), up_a, up_n (by decide), up_n (by decide)])
    refine go [6] 400 (k := ?_)
    simp (config := {maxSteps := 1000000}) only [↓pI_c, ↓pR_c, ↓pJ_c, ↓pV_c, ↓popN_0, ↓popN_s, ↓lI_0, ↓lR_0, ↓lJ_0, ↓lI_s, ↓lR_s, ↓lJ_s, ↓okSt_0, ↓okSt_I, ↓okSt_R, ↓okSt_N, ↓okSt_s, ↓rtI_s, ↓rtV_n, ↓brP_t, ↓brP_f, ↓sProp_insert_0, ↓sProp_insert_1, ↓rf_27_5, ↓sProp_insert_4, ↓sProp_insert_6, ↓sProp_insert_8, ↓sProp_insert_11, ↓sProp_insert_12, ↓sProp_insert_13, ↓sProp_insert_14, ↓sProp_insert_16, ↓sProp_insert_17, ↓sProp_insert_18, ↓sProp_insert_21, ↓sProp_insert_24, ↓sProp_insert_25, ↓rf_27_2, ↓sProp_insert_28, ↓sProp_insert_30, ↓sProp_insert_31, ↓sProp_insert_34, ↓sProp_insert_36, ↓sProp_insert_37, ↓sProp_insert_38, ↓sProp_insert_39, ↓sProp_insert_40, ↓sProp_insert_41, ↓rf_27_3, ↓sProp_insert_44, ↓sProp_insert_46, ↓sProp_insert_47, ↓sProp_insert_50, ↓sProp_insert_52, ↓sProp_insert_53, ↓sProp_insert_54, ↓sProp_insert_55, ↓sProp_insert_56, ↓sProp_insert_57, ↓rf_27_4, ↓sProp_insert_60, ↓sProp_insert_62, ↓sProp_insert_63, ↓sProp_insert_66, ↓sProp_insert_68, ↓sProp_insert_69, ↓sProp_insert_70, ↓sProp_insert_71, ↓sProp_insert_72, ↓sProp_insert_75, ↓sProp_insert_78, ↓sProp_insert_79, ↓sProp_insert_82, ↓sProp_insert_84, ↓sProp_insert_85, ↓sProp_insert_86, ↓sProp_insert_87, ↓sProp_insert_90, ↓sProp_insert_92, ↓sProp_insert_93, ↓sProp_insert_94, ↓sProp_insert_95, ↓sProp_insert_98, ↓sProp_insert_100, ↓sProp_insert_101, ↓sProp_insert_102, ↓sProp_insert_103, ↓sProp_insert_104, ↓sProp_insert_107, ↓sProp_insert_108, ↓sProp_insert_109, ↓sProp_insert_112, ↓ln_30, ↓ln_31, ↓ln_32, List.set_cons_zero, List.set_cons_succ, List.length_cons, List.length_nil, List.contains_cons, List.contains_nil, cat1, brP_d, true_and, and_true, not_false_eq_true, not_true_eq_false, if_true, if_false, Bool.or_false, Bool.false_or, Bool.or_true, Bool.true_or, Bool.false_eq_true, Bool.or_self, false_implies, true_implies, forall_const, and_self, implies_true, true_or, or_true, or_false, false_or, or_self, Classical.not_not, Int.reduceAdd, Int.reduceSub, Int.reduceMul, Int.reduceNeg, Int.reduceToNat, Int.reduceLT, Int.reduceLE, Int.reduceEq, Int.reduceNe, Int.reduceNatCast', Nat.reduceAdd, Nat.reduceSub, Nat.reduceLeDiff, Nat.reduceLT, Nat.reduceEqDiff, Nat.reduceBEq, reduceIte, nx_w, nx_c, up_n, up_s, up_f, ne_eq, Nat.reduceEqDiff, Option.some.injEq, Prod.mk.injEq, exists_eq_left', reduceCtorEq, ob_27, g27]
    rw [wr_id (x := h0 27 5 + 1) (by omega) (by omega), ep]
    refine ⟨fun h8 => ⟨by omega, by omega, by omega, hf, fin ?_⟩, fun h8 => ?_⟩
    · rw [show p = 0 by omega] at h3 ⊢
      exact h3
    · rw [wr_id (x := (p : Int) - 1) (by omega) (by omega), wr_id (x := (p : Int) + -1) (by omega) (by omega)]
      obtain ⟨m, rfl⟩ : ∃ m : Nat, p = m + 1 := ⟨p - 1, by omega⟩
      have em : (((m + 1 : Nat) : Int) - 1).toNat = m := by omega
      have h31 : h 31 m = h0 31 m := h6.1 m (by omega)
      have h32 : h 32 m = h0 32 m := h7.1 m (by omega)
      have hbm : h0 32 m = 0 ∨ h0 32 m = 1 := by rw [(hs.2 m (by omega)).2.2]; exact hb m (by omega)
      refine use_b (t_Prop_isBefore h c f _ (by omega)) (fun hc => ?_) (fun hc => ?_)
      · rw [em, h31, h32] at hc
        simp only [one_ne, not_false_eq_true, true_implies, false_implies, true_and, em]
        refine ⟨by omega, by omega, by omega, by omega, by omega, by omega, by rw [h32]; exact hbm, ?_⟩
        rw [show ((m + 1 : Nat) : Int) + -1 = (m : Int) by omega]
        refine ih m _ (by omega) (by omega) ?_ (fun a a2 a3 a4 => by rw [up_ne a4, up_ne a3, up_ne a2]; exact h4 a a2 a3 a4) ?_ ?_ ?_
        · rcases pl_s (h0 31) (h0 32) c f m with ⟨_, e⟩ | ⟨e, _⟩
          · rw [← e]; exact h3
          · exact absurd hc e
        · have : (up (up (up h 30 (m + 1) (h 30 m)) 31 (m + 1) (h 31 m)) 32 (m + 1) (h 32 m)) 30 = fun b => if b = m + 1 then h 30 m else h 30 b := by
            funext b
            rw [up_n (by decide), up_n (by decide), up_a]
          rw [this]
          exact shP_s h5 rfl
        · have : (up (up (up h 30 (m + 1) (h 30 m)) 31 (m + 1) (h 31 m)) 32 (m + 1) (h 32 m)) 31 = fun b => if b = m + 1 then h 31 m else h 31 b := by
            funext b
            rw [up_n (by decide), up_a, up_n (by decide)]
          rw [this]
          exact shP_s h6 rfl
        · have : (up (up (up h 30 (m + 1) (h 30 m)) 31 (m + 1) (h 31 m)) 32 (m + 1) (h 32 m)) 32 = fun b => if b = m + 1 then h 32 m else h 32 b := by
            funext b
            rw [up_a, up_n (by decide), up_n (by decide)]
          rw [this]
          exact shP_s h7 rfl
      · rw [em, h31, h32] at hc
        simp only [not_true_eq_false, true_implies, false_implies, and_true]
        rw [g27, wr_id (x := h0 27 5 + 1) (by omega) (by omega)]
        refine ⟨by omega, by omega, by omega, hf, fin ?_⟩
        rcases pl_s (h0 31) (h0 32) c f m with ⟨e, _⟩ | ⟨_, e⟩
        · exact absurd e hc
        · rw [← h3, e]
set_option maxRecDepth 100000 in
set_option maxHeartbeats 4000000 in
theorem t_Prop_insert (h : HP) (w c f : Int) (s : Nat × (Nat → Int) × (Nat → Int) × (Nat → Int)) (hf : f = 0 ∨ f = 1) (hs : prA (h 27 5) (h 30) (h 31) (h 32) s) (hb : bA s) (hs60 : s.1 < 60) : trV mProp_insert [.inr (.inr 27), .inl w, .inl c, .inl f] SH0 h (qIns h (insS s w c f)) := by
  have e5 := hs.1
  have r1 : ∀ f : Nat → Int, shP f f s.1 s.1 := fun f => ⟨fun _ _ => rfl, fun i h1 h2 => by omega⟩
  refine startV [some (.inr (.inr 27)), some (.inl w), some (.inl c), some (.inl f), none] mProp_insert_c (go [6] 400 (k := ?_))
  simp (config := {maxSteps := 1000000}) only [↓pI_c, ↓pR_c, ↓pJ_c, ↓pV_c, ↓popN_0, ↓popN_s, ↓lI_0, ↓lR_0, ↓lJ_0, ↓lI_s, ↓lR_s, ↓lJ_s, ↓okSt_0, ↓okSt_I, ↓okSt_R, ↓okSt_N, ↓okSt_s, ↓rtI_s, ↓rtV_n, ↓brP_t, ↓brP_f, ↓sProp_insert_0, ↓sProp_insert_1, ↓rf_27_5, ↓sProp_insert_4, ↓sProp_insert_6, ↓sProp_insert_8, ↓sProp_insert_11, ↓sProp_insert_12, ↓sProp_insert_13, ↓sProp_insert_14, ↓sProp_insert_16, ↓sProp_insert_17, ↓sProp_insert_18, ↓sProp_insert_21, ↓sProp_insert_24, ↓sProp_insert_25, ↓rf_27_2, ↓sProp_insert_28, ↓sProp_insert_30, ↓sProp_insert_31, ↓sProp_insert_34, ↓sProp_insert_36, ↓sProp_insert_37, ↓sProp_insert_38, ↓sProp_insert_39, ↓sProp_insert_40, ↓sProp_insert_41, ↓rf_27_3, ↓sProp_insert_44, ↓sProp_insert_46, ↓sProp_insert_47, ↓sProp_insert_50, ↓sProp_insert_52, ↓sProp_insert_53, ↓sProp_insert_54, ↓sProp_insert_55, ↓sProp_insert_56, ↓sProp_insert_57, ↓rf_27_4, ↓sProp_insert_60, ↓sProp_insert_62, ↓sProp_insert_63, ↓sProp_insert_66, ↓sProp_insert_68, ↓sProp_insert_69, ↓sProp_insert_70, ↓sProp_insert_71, ↓sProp_insert_72, ↓sProp_insert_75, ↓sProp_insert_78, ↓sProp_insert_79, ↓sProp_insert_82, ↓sProp_insert_84, ↓sProp_insert_85, ↓sProp_insert_86, ↓sProp_insert_87, ↓sProp_insert_90, ↓sProp_insert_92, ↓sProp_insert_93, ↓sProp_insert_94, ↓sProp_insert_95, ↓sProp_insert_98, ↓sProp_insert_100, ↓sProp_insert_101, ↓sProp_insert_102, ↓sProp_insert_103, ↓sProp_insert_104, ↓sProp_insert_107, ↓sProp_insert_108, ↓sProp_insert_109, ↓sProp_insert_112, ↓ln_30, ↓ln_31, ↓ln_32, List.set_cons_zero, List.set_cons_succ, List.length_cons, List.length_nil, List.contains_cons, List.contains_nil, cat1, brP_d, true_and, and_true, not_false_eq_true, not_true_eq_false, if_true, if_false, Bool.or_false, Bool.false_or, Bool.or_true, Bool.true_or, Bool.false_eq_true, Bool.or_self, false_implies, true_implies, forall_const, and_self, implies_true, true_or, or_true, or_false, false_or, or_self, Classical.not_not, Int.reduceAdd, Int.reduceSub, Int.reduceMul, Int.reduceNeg, Int.reduceToNat, Int.reduceLT, Int.reduceLE, Int.reduceEq, Int.reduceNe, Int.reduceNatCast', Nat.reduceAdd, Nat.reduceSub, Nat.reduceLeDiff, Nat.reduceLT, Nat.reduceEqDiff, Nat.reduceBEq, reduceIte, nx_w, nx_c, up_n, up_s, up_f, ne_eq, Nat.reduceEqDiff, Option.some.injEq, Prod.mk.injEq, exists_eq_left', reduceCtorEq, ob_27]
  rw [e5]
  exact l_Prop_insert h w c f s hf hs hb hs60 (s.1 + 1) s.1 h (by omega) (by omega) rfl (fun _ _ _ _ => rfl) (r1 _) (r1 _) (r1 _)
theorem up_back {h : HP} {k j : Nat} {x y : Int} (e : h k j = y) : up (up h k j x) k j y = h := by
  funext a b
  by_cases z : a = k ∧ b = j
  · obtain ⟨rfl, rfl⟩ := z
    rw [up_s, e]
  · rw [up_off z, up_off z]
def rdG (g h : HP) : Prop := h 24 6 = mN g ∧ (∀ i : Nat, (i : Int) < mN g → h 25 i = mT g i ∧ h 26 i = mW g i) ∧ verdR g (mN g) (fun i => mT g i) (mW g) (h 24 7) (h 24 8) (h 24 9) (h 24 10)
theorem fitF_ex {h : HP} {wf : Nat → Int} {n x : Int} (hf : fitF h wf n x) : ¬ x = -1 ↔ ∃ r : Nat, (r : Int) < h 15 3 ∧ fitR h wf n r := by
  rcases hf with ⟨rfl, a⟩ | ⟨r, a1, rfl, a2, a3⟩
  · exact ⟨fun z => absurd rfl z, fun ⟨r, r1, r2⟩ => absurd r2 (a r r1)⟩
  · exact ⟨fun _ => ⟨r, a1, a2⟩, fun _ => by omega⟩
set_option maxRecDepth 100000 in
set_option maxHeartbeats 4000000 in
theorem t_Read_wouldFit (g h : HP) (hC : CI g) (hk : KF g h) (hr : rdG g h) (q w : Nat) (hu : u3 g q) (hq : h 24 9 = q) (hw : (w : Int) < g 10 4) : trI mRead_wouldFit [.inr (.inr 24), .inl w] SH0 h (fun r h' => h' = h ∧ r = wfI g q w) := by
  obtain ⟨hW, hN, hR, hS, hL⟩ := hC
  obtain ⟨r1, r2, r3⟩ := hr
  have hn := mN_in hL
  have h60 := hW.2.1
  have e26 := (r2 q hu.1).2
  rw [hu.2.1] at e26
  have hqn := hu.1
  have eq : ((q : Int)).toNat = q := by omega
  have gg : ∀ a, a < 24 → up h 26 q w a = g a := fun a ha => by rw [up_ne (by omega)]; exact hk a (by omega)
  have gn : up h 26 q w 24 6 = mN g := by rw [up_n (by decide)]; exact r1
  have ga : ∀ i : Nat, (i : Int) < mN g → up h 26 q w 26 i = rpl (mW g) q w i := fun i hi => by
    rw [up_a]
    unfold rpl
    rw [(r2 i hi).2]
  have hwd : ∀ i : Nat, (i : Int) < mN g → 0 ≤ rpl (mW g) q w i ∧ rpl (mW g) q w i < g 10 4 := fun i hi => by
    unfold rpl
    by_cases z : i = q
    · rw [if_pos z]; omega
    · rw [if_neg z]
      rcases wd_in hN (mT g i) with y | y
      · exact absurd y (u3_other hu hi z)
      · exact y
  have hC' : CI (up h 26 q w) := CI.kf (fun a ha => by rw [up_ne (by omega)]; exact hk a ha) ⟨hW, hN, hR, hS, hL⟩
  refine startI [some (.inr (.inr 24)), some (.inl w), none] mRead_wouldFit_c (go [9999] 400 (k := ?_))
  simp (config := {maxSteps := 1000000}) only [↓pI_c, ↓pR_c, ↓pJ_c, ↓pV_c, ↓popN_0, ↓popN_s, ↓lI_0, ↓lR_0, ↓lJ_0, ↓lI_s, ↓lR_s, ↓lJ_s, ↓okSt_0, ↓okSt_I, ↓okSt_R, ↓okSt_N, ↓okSt_s, ↓rtI_s, ↓rtV_n, ↓brP_t, ↓brP_f, ↓sRead_wouldFit_0, ↓sRead_wouldFit_1, ↓rf_24_5, ↓sRead_wouldFit_4, ↓sRead_wouldFit_5, ↓rf_24_9, ↓sRead_wouldFit_8, ↓sRead_wouldFit_9, ↓sRead_wouldFit_10, ↓sRead_wouldFit_11, ↓sRead_wouldFit_14, ↓sRead_wouldFit_15, ↓sRead_wouldFit_18, ↓sRead_wouldFit_19, ↓sRead_wouldFit_22, ↓sRead_wouldFit_23, ↓sRead_wouldFit_26, ↓sRead_wouldFit_27, ↓sRead_wouldFit_30, ↓sRead_wouldFit_31, ↓sRead_wouldFit_32, ↓sRead_wouldFit_33, ↓sRead_wouldFit_36, ↓sRead_wouldFit_37, ↓sRead_wouldFit_40, ↓sRead_wouldFit_41, ↓sRead_wouldFit_42, ↓sRead_wouldFit_43, ↓ln_26, List.set_cons_zero, List.set_cons_succ, List.length_cons, List.length_nil, List.contains_cons, List.contains_nil, cat1, brP_d, true_and, and_true, not_false_eq_true, not_true_eq_false, if_true, if_false, Bool.or_false, Bool.false_or, Bool.or_true, Bool.true_or, Bool.false_eq_true, Bool.or_self, false_implies, true_implies, forall_const, and_self, implies_true, true_or, or_true, or_false, false_or, or_self, Classical.not_not, Int.reduceAdd, Int.reduceSub, Int.reduceMul, Int.reduceNeg, Int.reduceToNat, Int.reduceLT, Int.reduceLE, Int.reduceEq, Int.reduceNe, Int.reduceNatCast', Nat.reduceAdd, Nat.reduceSub, Nat.reduceLeDiff, Nat.reduceLT, Nat.reduceEqDiff, Nat.reduceBEq, reduceIte, nx_w, nx_c, up_n, up_s, up_f, ne_eq, Nat.reduceEqDiff, Option.some.injEq, Prod.mk.injEq, exists_eq_left', reduceCtorEq, ob_24, hq]
  rw [eq]
  refine ⟨by omega, ?_⟩
  refine use_q (t_Read_findHidden (up h 26 q w) (by rw [gn]; exact hn) (by rw [gn]; intro m hm; rw [ga m hm]; have := hwd m hm; omega)) ?_
  intro x hx
  unfold hidF at hx
  rw [gn, gg 13 (by decide)] at hx
  have back : up (up h 26 q w) 26 q (-1) = h := up_back e26
  rcases hx with ⟨rfl, hx⟩ | ⟨p, p1, rfl, p2, p3⟩
  · simp only [not_true_eq_false, false_implies, true_implies, and_true, true_and]
    have hall : ∀ m : Nat, (m : Int) < mN g → ¬ g 13 (rpl (mW g) q w m).toNat = 0 := fun m hm => by rw [← ga m hm]; exact hx m hm
    have hgd : gdW g (rpl (mW g) q w) (mN g) := ⟨by omega, fun i hi => ⟨by have := hwd i hi; omega, hall i hi⟩⟩
    refine use_q (t_Read_findFitting (up h 26 q w) hC'.1 hC'.2.2.1 (by rw [gn]; omega)) ?_
    intro x hx2
    rw [gn, fitF_congr (gg 10 (by decide)) (gg 11 (by decide)) (gg 12 (by decide)) (gg 15 (by decide)) (gg 16 (by decide)) (gg 17 (by decide)) (gg 18 (by decide)), fitF_wf (by omega) ga] at hx2
    have hex := fitF_ex hx2
    have g9 : up h 26 q w 24 9 = q := by rw [up_n (by decide)]; exact hq
    simp only [g9, eq, back]
    refine ⟨fun h3 => ⟨by omega, trivial, ?_⟩, fun h3 => ⟨by omega, trivial, ?_⟩⟩
    all_goals unfold wfI
    · rw [if_neg (fun z => (hex.mpr z.2) h3)]
    · rw [if_pos ⟨hgd, hex.mp h3⟩]
  · have : ¬ (p : Int) = -1 := by omega
    have g9 : up h 26 q w 24 9 = q := by rw [up_n (by decide)]; exact hq
    simp only [this, not_false_eq_true, true_implies, false_implies, true_and, and_true, g9, eq, back]
    refine ⟨by omega, ?_⟩
    unfold wfI
    rw [if_neg (fun z => (z.1.2 p p1).2 (by rw [← ga p p1]; exact p2))]
