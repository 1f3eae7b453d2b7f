/-! what holds of the line and the log once a proposal is taken -/
theorem prS_w (g : HP) (q : Nat) : ∀ n i : Nat, i < (prS g q n).1 → 0 ≤ (prS g q n).2.1 i ∧ (prS g q n).2.1 i < n
  | 0, i, h => absurd h (Nat.not_lt_zero i)
  | n + 1, i, h => by
    rcases prS_s g q n with ⟨_, e⟩ | ⟨_, e⟩
    · rw [e] at h ⊢
      have hp := pl_le (prS g q n).2.2.1 (prS g q n).2.2.2 (dN g (mT g q) (nq g (mT g q) n).toNat) (wfI g q n) (prS g q n).1
      have h' : i < (prS g q n).1 + 1 := h
      show 0 ≤ insF (prS g q n).2.1 (pl (prS g q n).2.2.1 (prS g q n).2.2.2 (dN g (mT g q) (nq g (mT g q) n).toNat) (wfI g q n) (prS g q n).1) n i ∧ insF (prS g q n).2.1 (pl (prS g q n).2.2.1 (prS g q n).2.2.2 (dN g (mT g q) (nq g (mT g q) n).toNat) (wfI g q n) (prS g q n).1) n i < ((n + 1 : Nat) : Int)
      unfold insF
      push_cast
      by_cases z1 : i < pl (prS g q n).2.2.1 (prS g q n).2.2.2 (dN g (mT g q) (nq g (mT g q) n).toNat) (wfI g q n) (prS g q n).1
      · rw [if_pos z1]
        have := prS_w g q n i (by omega)
        omega
      · rw [if_neg z1]
        by_cases z2 : i = pl (prS g q n).2.2.1 (prS g q n).2.2.2 (dN g (mT g q) (nq g (mT g q) n).toNat) (wfI g q n) (prS g q n).1
        · rw [if_pos z2]
          omega
        · rw [if_neg z2]
          have := prS_w g q n (i - 1) (by omega)
          omega
    · rw [e] at h ⊢
      have := prS_w g q n i h
      push_cast
      omega
theorem qPr_w {g : HP} {v m : Int} {fw fd ff : Nat → Int} (h : qPr g v m fw fd ff) (h0 : 0 ≤ g 10 4) {i : Nat} (hi : (i : Int) < m) : 0 ≤ fw i ∧ fw i < g 10 4 := by
  rcases h with ⟨_, _, q, _, a1, a2⟩ | ⟨_, a⟩
  · rw [(a2 i (by omega)).1]
    have := prS_w g q (g 10 4).toNat i (by omega)
    omega
  · omega
theorem mL_mem (h : HP) : ∀ n j : Nat, j < n → ¬ idle h j → ∃ i, i < (mL h n).length ∧ (mL h n).getD i 0 = j
  | 0, j, hj, _ => absurd hj (Nat.not_lt_zero j)
  | n + 1, j, hj, hi => by
    rcases mL_s h n with ⟨e1, e2⟩ | ⟨e1, e2⟩
    · have : j ≠ n := fun e => hi (by rw [e]; exact e1)
      rw [e2]
      exact mL_mem h n j (by omega) hi
    · rw [e2]
      by_cases z : j = n
      · refine ⟨(mL h n).length, by simp, ?_⟩
        simp only [List.getD_eq_getElem?_getD, List.getElem?_append_right (Nat.le_refl _), Nat.sub_self, List.getElem?_cons_zero, Option.getD_some]
        exact z.symm
      · obtain ⟨i, i1, i2⟩ := mL_mem h n j (by omega) hi
        refine ⟨i, by simp; omega, ?_⟩
        rw [← i2]
        simp only [List.getD_eq_getElem?_getD, List.getElem?_append_left i1]
theorem u3_known {g : HP} (hN : CN g) (hL : CL0 g) {q : Nat} (hu : u3 g q) {j : Nat} (hj : (j : Int) < g 19 5) (hne : j ≠ mT g q) : known g (tw g j) (g 23 j) := by
  refine (wd_known hN j).mp (fun z => ?_)
  have hi : ¬ idle g j := fun y => by
    unfold idle isK at y
    omega
  obtain ⟨i, i1, i2⟩ := mL_mem g (g 19 5).toNat j (by omega) hi
  have e : mT g i = j := i2
  have hin : (i : Int) < mN g := by unfold mN; omega
  by_cases y : i = q
  · rw [y] at e
    exact hne e.symm
  · exact u3_other hu hin y (by unfold mW; rw [e]; exact z)
theorem u3_s80 {g : HP} (hN : CN g) (hL : CL0 g) {q : Nat} (hu : u3 g q) : g 19 4 ≤ 80 := by
  have hmT := (mT_in hu.1 hL.2.2.2.1.1).1
  rcases Int.lt_or_le 80 (g 19 4) with z | z
  · exact absurd hu.2.1 ((wd_known hN (mT g q)).mpr (hL.2.2.2.2.2 z (mT g q) hmT))
  · exact z
def accC (g : HP) (k : Nat) (w : Int) (h2 : HP) : Prop := ∃ h0 n h1, KF g h0 ∧ frst g w n ∧ qLog h0 k w h1 ∧ qRpl h1 k n h2
/-- what the line is then, in cells of the heap before -/
def acL (g : HP) (k n : Nat) (h2 : HP) : Prop := (∀ a, a < 19 ∨ 41 ≤ a → h2 a = g a) ∧ (∀ b, b ≠ 4 → b ≠ 5 → h2 19 b = g 19 b) ∧ h2 19 4 = rpS g k n ∧ (∀ j : Nat, (j : Int) < rpS g k n → h2 20 j = rpF g k n j ∧ h2 21 j = lOf (rpF g k n j)) ∧ h2 19 5 = g 19 5 ∧ (∀ j : Nat, (j : Int) < g 19 5 → h2 22 j = (if j ≤ k then g 22 j else g 22 j + g 8 n - g 23 k) ∧ h2 23 j = (if j = k then g 8 n else g 23 j)) ∧ IRuns h2 (rpS g k n) (h2 19 5) (h2 20) (h2 22) (h2 23) ∧ h2 19 5 = rc (h2 20) (rpS g k n).toNat
theorem acc_L {g h2 : HP} {k : Nat} {w : Int} (h : accC g k w h2) : ∃ n h0 h1, frst g w n ∧ acL g k n h2 ∧ KF g h0 ∧ qLog h0 k w h1 ∧ ∀ a, 36 ≤ a → h2 a = h1 a := by
  obtain ⟨h0, n, h1, a1, a2, a3, b1, b2', b3, b4, b5, b6, b7, b8⟩ := h
  obtain ⟨c1, c2⟩ := qLog_ne a3
  have e : ∀ a, a < 24 → h1 a = g a := fun a ha => by rw [c1 a (by omega)]; exact a1 a (by omega)
  have eS : rpS h1 k n = rpS g k n := by unfold rpS; rw [e 19 (by decide), e 23 (by decide), e 8 (by decide)]
  have eF : rpF h1 k n = rpF g k n := by
    unfold rpF nmF
    rw [e 20 (by decide), e 22 (by decide), e 23 (by decide), e 7 (by decide), e 8 (by decide)]
  rw [eS] at b3 b4 b7 b8
  rw [eF] at b4
  rw [e 19 (by decide)] at b5 b6
  rw [e 22 (by decide), e 23 (by decide), e 8 (by decide)] at b6
  refine ⟨n, h0, h1, a2, ⟨fun a ha => ?_, fun b z1 z2 => ?_, b3, b4, b5, b6, b7, b8⟩, a1, a3, fun a ha => b1 a (by omega) (by omega) (by omega) (by omega) (by omega)⟩
  · rw [b1 a (by omega) (by omega) (by omega) (by omega) (by omega), c1 a (by omega)]
    exact a1 a (by omega)
  · rw [b2' b z1 z2, e 19 (by decide)]
theorem acL_CI {g h2 : HP} (hC : CI g) {q n : Nat} (hu : u3 g q) (hn : (n : Int) < g 6 3) (h : acL g (mT g q) n h2) (x : Int) : CI (up h2 19 6 x) := by
  obtain ⟨hW, hN, hR, hS, hL⟩ := hC
  have hk := (mT_in hu.1 hL.2.2.2.1.1).1
  obtain ⟨⟨n1, n2, n3⟩, n4⟩ := nm_in hN hn
  have h80 := u3_s80 hN hL hu
  obtain ⟨a1, a2, a3, a4, a5, a6, a7, a8⟩ := h
  obtain ⟨k, hkk⟩ : ∃ k, mT g q = k := ⟨_, rfl⟩
  have kn : ∀ j : Nat, (j : Int) < g 19 5 → j ≠ k → known g (tw g j) (g 23 j) := fun j hj hne => u3_known hN hL hu hj (by rw [hkk]; exact hne)
  rw [hkk] at hk a3 a4 a6 a7 a8
  obtain ⟨k1, k2, k3, k4⟩ := hL.2.2.2.1.2.2.1 k hk
  have e : ∀ a, a < 19 → up h2 19 6 x a = g a := fun a ha => by rw [up_ne (by omega)]; exact a1 a (Or.inl ha)
  have e4 : up h2 19 6 x 19 4 = rpS g k n := by rw [up_f (by decide)]; exact a3
  have e5 : up h2 19 6 x 19 5 = h2 19 5 := up_f (by decide)
  have e20 : up h2 19 6 x 20 = h2 20 := up_ne (by decide)
  have e21 : up h2 19 6 x 21 = h2 21 := up_ne (by decide)
  have e22 : up h2 19 6 x 22 = h2 22 := up_ne (by decide)
  have e23 : up h2 19 6 x 23 = h2 23 := up_ne (by decide)
  refine ⟨?_, CN_congr (e 6 (by decide)) (e 7 (by decide)) (e 8 (by decide)) (e 9 (by decide)) (e 10 (by decide)) hN, ?_, ?_, ?_⟩
  · unfold CW
    rw [e 10 (by decide), e 11 (by decide), e 13 (by decide), e 14 (by decide)]
    exact hW
  · unfold CR okTok
    rw [e 10 (by decide), e 11 (by decide), e 15 (by decide), e 16 (by decide), e 17 (by decide), e 18 (by decide)]
    exact hR
  · unfold CS
    rw [e 4 (by decide), e 5 (by decide)]
    exact hS
  · unfold CL0
    rw [e4, e5, e20, e21, e22, e23]
    have sz : rpS g k n = g 19 4 - g 23 k + g 8 n := rfl
    refine ⟨by omega, by omega, fun j hj => ?_, runs_congr a7 (fun _ _ => rfl), a8, fun _ j hj => ?_⟩
    · obtain ⟨b1, b2'⟩ := a4 j hj
      rw [b2', b1]
      refine ⟨?_, ?_, rfl⟩
      all_goals
        unfold rpF
        by_cases z1 : (j : Int) < g 22 k
        · rw [rpl1 z1]
          have := hL.2.2.1 j (by omega)
          omega
        · by_cases z2 : (j : Int) < g 22 k + g 8 n
          · rw [rpl2 (by omega) z2]
            have := n4 (j - (g 22 k).toNat) (by omega)
            omega
          · rw [rpl3 (by omega) (by omega)]
            have := hL.2.2.1 (j - (g 8 n).toNat + (g 23 k).toNat) (by omega)
            omega
    · rw [a5] at hj
      obtain ⟨c1, c2⟩ := a6 j hj
      have cj := hL.2.2.2.1.2.2.1 j hj
      have tw' : ∀ i, tw (up h2 19 6 x) j i = h2 21 ((h2 22 j).toNat + i) := fun i => by
        unfold tw
        rw [e21, e22]
      unfold known mt
      rw [e 6 (by decide), e 7 (by decide), e 8 (by decide)]
      simp only [tw']
      by_cases z : j = k
      · subst z
        rw [if_pos (Nat.le_refl j)] at c1
        rw [if_pos rfl] at c2
        rw [c1, c2]
        refine ⟨n, hn, rfl, fun i hi => ?_⟩
        rw [(a4 _ (by omega)).2]
        unfold rpF
        rw [rpl2 (by omega) (by omega), lOf_97 (n4 _ (by omega))]
        unfold nmF
        congr 1
        omega
      · obtain ⟨n0, m1, m2, m3⟩ := kn j hj z
        rw [if_neg z] at c2
        refine ⟨n0, m1, by rw [c2]; exact m2, fun i hi => ?_⟩
        rw [c2] at hi
        rw [m3 i hi, c1]
        by_cases y : j ≤ k
        · have := runs_lt' hL.2.2.2.1 (show j < k by omega) hk
          rw [if_pos y, (a4 _ (by omega)).2]
          unfold rpF
          rw [rpl1 (by omega)]
          unfold tw
          exact (hL.2.2.1 _ (by omega)).2.2
        · have := runs_lt' hL.2.2.2.1 (show k < j by omega) hj
          rw [if_neg y, (a4 _ (by omega)).2]
          unfold rpF
          rw [rpl3 (by omega) (by omega)]
          unfold tw
          rw [(hL.2.2.1 _ (by omega)).2.2]
          congr 2
          omega
theorem lgP_congr {g h0 : HP} (e : KF g h0) {k p : Nat} {w : Int} : lgP h0 k w p ↔ lgP g k w p := by
  unfold lgP sameL tw
  rw [e 39 (by decide), e 38 (by decide), e 37 (by decide), e 21 (by decide), e 22 (by decide), e 23 (by decide)]
theorem log_C {g h0 h1 : HP} {k : Nat} {w : Int} (hG : CLg g) (hk : tyIn g k) (hw : 0 ≤ w ∧ w < g 10 4) (e : KF g h0) (hq : qLog h0 k w h1) : CLg h1 := by
  obtain ⟨⟨t1, t2, t3⟩, t4⟩ := hk
  obtain ⟨g1, g2, g3⟩ := hG
  rcases hq with ⟨p, p1, p2, p3, rfl⟩ | ⟨_, ⟨_, rfl⟩ | ⟨p1, p2, rfl⟩⟩
  · unfold CLg
    rw [up_n (by decide), up_n (by decide), up_ne (by decide), up_ne (by decide), up_ne (by decide), e 36 (by decide), e 37 (by decide), e 38 (by decide), e 39 (by decide), e 10 (by decide)]
    exact ⟨g1, g2, g3⟩
  · unfold CLg
    rw [e 36 (by decide), e 37 (by decide), e 38 (by decide), e 39 (by decide), e 10 (by decide)]
    exact ⟨g1, g2, g3⟩
  · rw [e 23 (by decide)] at p1
    rw [e 36 (by decide)] at p2
    have e4 : lgAdd h0 k w 36 4 = g 36 4 + 1 := by unfold lgAdd; rw [up_s, e 36 (by decide)]
    have e10 : lgAdd h0 k w 10 4 = g 10 4 := by unfold lgAdd; rw [up_n (by decide), up_n (by decide), up_n (by decide), up_n (by decide), cpy_ne (by decide), e 10 (by decide)]
    have e38 : ∀ j, lgAdd h0 k w 38 j = if j = (g 36 4).toNat then g 23 k else g 38 j := fun j => by unfold lgAdd; rw [up_n (by decide), up_n (by decide), up_n (by decide), up_a, cpy_ne (by decide), e 36 (by decide), e 38 (by decide), e 23 (by decide)]
    have e39 : ∀ j, lgAdd h0 k w 39 j = if j = (g 36 4).toNat then w else g 39 j := fun j => by unfold lgAdd; rw [up_n (by decide), up_n (by decide), up_a, up_n (by decide), cpy_ne (by decide), e 36 (by decide), e 39 (by decide)]
    have e37 : ∀ j, lgAdd h0 k w 37 j = if (g 36 4 * 12).toNat ≤ j ∧ j < (g 36 4 * 12).toNat + (g 23 k).toNat then g 21 ((g 22 k).toNat + (j - (g 36 4 * 12).toNat)) else g 37 j := fun j => by
      unfold lgAdd
      rw [up_n (by decide), up_n (by decide), up_n (by decide), up_n (by decide)]
      unfold cpy
      rw [e 36 (by decide), e 37 (by decide), e 23 (by decide), e 22 (by decide), e 21 (by decide)]
      simp only [true_and]
    unfold CLg
    rw [e4, e10]
    refine ⟨by omega, by omega, fun j hj => ?_⟩
    rw [e38, e39]
    by_cases z : j = (g 36 4).toNat
    · rw [if_pos z, if_pos z]
      refine ⟨by omega, hw, fun i hi => ?_⟩
      rw [e37, if_pos (by omega)]
      have := t4 i hi
      unfold tw at this
      rw [show 12 * j + i - (g 36 4 * 12).toNat = i by omega]
      exact this
    · rw [if_neg z, if_neg z]
      obtain ⟨z1, z2, z3⟩ := g3 j (by omega)
      refine ⟨z1, z2, fun i hi => ?_⟩
      rw [e37, if_neg (by omega)]
      exact z3 i hi
theorem log_CM {g h0 h1 hm hm' : HP} {k : Nat} {w : Int} (hG : CLg g) (hk : tyIn g k) (e : KF g h0) (hq : qLog h0 k w h1) (hc : CMg g hm) (hqm : qLogM g hm k w hm') : CMg h1 hm' := by
  obtain ⟨⟨t1, t2, t3⟩, t4⟩ := hk
  obtain ⟨g1, g2, g3⟩ := hG
  obtain ⟨c1, c2⟩ := hc
  unfold qLog at hq
  rw [e 36 (by decide), e 23 (by decide)] at hq
  simp only [lgP_congr e] at hq
  rcases hq with ⟨p, p1, p2, p3, rfl⟩ | ⟨p1, hq⟩
  · rcases hqm with ⟨p', q1, q2, q3, rfl⟩ | ⟨q1, _⟩
    · have : p = p' := by
        rcases Nat.lt_trichotomy p p' with z | z | z
        · exact absurd p2 (q3 p z)
        · exact z
        · exact absurd q2 (p3 p' z)
      subst this
      unfold CMg
      refine ⟨by rw [up_n (by decide), up_n (by decide), e 36 (by decide)]; exact c1, fun j hj => ?_⟩
      rw [up_n (by decide), e 36 (by decide)] at hj
      obtain ⟨z1, z2, z3, z4⟩ := c2 j hj
      refine ⟨by rw [up_n (by decide), up_n (by decide), e 38 (by decide)]; exact z1, by rw [up_n (by decide), up_n (by decide), e 39 (by decide)]; exact z2, by rw [up_a, up_a, e 40 (by decide), (c2 p p1).2.2.1, z3], fun i hi => ?_⟩
      rw [up_n (by decide), e 38 (by decide)] at hi
      rw [up_n (by decide), up_n (by decide), e 37 (by decide)]
      exact z4 i hi
    · exact absurd p2 (q1 p p1)
  · rcases hqm with ⟨p', q1, q2, q3, rfl⟩ | ⟨q1, hqm⟩
    · exact absurd q2 (p1 p' q1)
    · rcases hq with ⟨r1, rfl⟩ | ⟨r1, r2, rfl⟩
      · rcases hqm with ⟨s1, rfl⟩ | ⟨s1, s2, _⟩
        · unfold CMg
          rw [e 36 (by decide), e 37 (by decide), e 38 (by decide), e 39 (by decide), e 40 (by decide)]
          exact ⟨c1, c2⟩
        · omega
      · rcases hqm with ⟨s1, rfl⟩ | ⟨s1, s2, m1, ⟨u1, u2⟩, rfl⟩
        · omega
        · have e4 : lgAdd h0 k w 36 4 = g 36 4 + 1 := by unfold lgAdd; rw [up_s, e 36 (by decide)]
          have e38 : ∀ j, lgAdd h0 k w 38 j = if j = (g 36 4).toNat then g 23 k else g 38 j := fun j => by unfold lgAdd; rw [up_n (by decide), up_n (by decide), up_n (by decide), up_a, cpy_ne (by decide), e 36 (by decide), e 38 (by decide), e 23 (by decide)]
          have e39 : ∀ j, lgAdd h0 k w 39 j = if j = (g 36 4).toNat then w else g 39 j := fun j => by unfold lgAdd; rw [up_n (by decide), up_n (by decide), up_a, up_n (by decide), cpy_ne (by decide), e 36 (by decide), e 39 (by decide)]
          have e40 : ∀ j, lgAdd h0 k w 40 j = if j = (g 36 4).toNat then 1 else g 40 j := fun j => by unfold lgAdd; rw [up_n (by decide), up_a, up_n (by decide), up_n (by decide), cpy_ne (by decide), e 36 (by decide), e 40 (by decide)]
          have e37 : ∀ j, lgAdd h0 k w 37 j = if (g 36 4 * 12).toNat ≤ j ∧ j < (g 36 4 * 12).toNat + (g 23 k).toNat then g 21 ((g 22 k).toNat + (j - (g 36 4 * 12).toNat)) else g 37 j := fun j => by
            unfold lgAdd
            rw [up_n (by decide), up_n (by decide), up_n (by decide), up_n (by decide)]
            unfold cpy
            rw [e 36 (by decide), e 37 (by decide), e 23 (by decide), e 22 (by decide), e 21 (by decide)]
            simp only [true_and]
          unfold CMg
          rw [e4, up_s]
          refine ⟨rfl, fun j hj => ?_⟩
          rw [e38, e39, e40, up_n (by decide), up_n (by decide), up_n (by decide), up_a, u1 70 (by decide), up_n (by decide), up_n (by decide), up_a, up_n (by decide), u1 71 (by decide), up_n (by decide), up_a, up_n (by decide), up_n (by decide), u1 72 (by decide)]
          have f69 : ∀ b, up (up (up (up m1 70 (g 36 4).toNat (g 23 k)) 71 (g 36 4).toNat w) 72 (g 36 4).toNat 1) 43 39 (g 36 4 + 1) 69 b = m1 69 b := fun b => by rw [up_n (by decide), up_n (by decide), up_n (by decide), up_n (by decide)]
          by_cases z : j = (g 36 4).toNat
          · simp only [if_pos z]
            refine ⟨trivial, trivial, trivial, fun i hi => ?_⟩
            rw [f69, u2, e37, if_pos (by omega), if_pos (by omega)]
            unfold tw
            rw [show 12 * j + i - (g 36 4 * 12).toNat = i by omega, show 12 * j + i - (12 * g 36 4).toNat = i by omega]
          · simp only [if_neg z]
            obtain ⟨z1, z2, z3, z4⟩ := c2 j (by omega)
            have := (g3 j (by omega)).1
            refine ⟨z1, z2, z3, fun i hi => ?_⟩
            rw [f69, u2, e37, if_neg (by omega), if_neg (by omega)]
            exact z4 i hi
