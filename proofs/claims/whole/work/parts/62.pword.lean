/-! a name more; the pairs of word and line -/
def nAdd (g g' : HP) (r : Nat → Int) (l o : Int) : Prop := g' 6 3 = g 6 3 + 1 ∧ (∀ j : Nat, g' 8 j = if j = (g 6 3).toNat then l else g 8 j) ∧ (∀ j : Nat, g' 9 j = if j = (g 6 3).toNat then o else g 9 j) ∧ (∀ i : Nat, (i : Int) < l → g' 7 (12 * (g 6 3).toNat + i) = r i) ∧ ∀ j : Nat, j < 12 * (g 6 3).toNat → g' 7 j = g 7 j
def mAdd (g h h' : HP) (r : Nat → Int) (l o : Int) : Prop := h' 43 6 = g 6 3 + 1 ∧ (∀ j : Nat, h' 49 j = if j = (g 6 3).toNat then l else h 49 j) ∧ (∀ j : Nat, h' 50 j = if j = (g 6 3).toNat then o else h 50 j) ∧ (∀ i : Nat, (i : Int) < l → h' 48 (12 * (g 6 3).toNat + i) = r i + 97) ∧ ∀ j : Nat, j < 12 * (g 6 3).toNat → h' 48 j = h 48 j
theorem CN_add {g g' : HP} {r : Nat → Int} {l o : Int} (hN : CN g) (ha : nAdd g g' r l o) (hl : 1 ≤ l ∧ l ≤ 12) (hr : ∀ i : Nat, (i : Int) < l → 0 ≤ r i ∧ r i ≤ 25) (hno : ¬ known g r l) (hM : g 6 3 < 90) (ho : 0 ≤ o ∧ o < g' 10 4) (hw : g 10 4 ≤ g' 10 4) (hex : ∀ w, g 10 4 ≤ w → w < g' 10 4 → w = o) : CN g' := by
  obtain ⟨n1, n2, n3, n4, n5⟩ := hN
  obtain ⟨a1, a2, a3, a4, a5⟩ := ha
  have old : ∀ k i : Nat, (k : Int) < g 6 3 → i < 12 → g' 7 (12 * k + i) = g 7 (12 * k + i) := fun k i hk hi => a5 _ (by omega)
  unfold CN
  rw [a1]
  refine ⟨by omega, by omega, fun k hk => ?_, fun k k' hk hk' hm => ?_, fun w w0 w1 => ?_⟩
  · rw [a2, a3]
    by_cases y : k = (g 6 3).toNat
    · rw [if_pos y, if_pos y]
      refine ⟨hl.1, hl.2, ho.1, ho.2, fun i hi => ?_⟩
      rw [y, a4 i hi]
      exact hr i hi
    · rw [if_neg y, if_neg y]
      obtain ⟨z1, z2, z3, z4, z5⟩ := n3 k (by omega)
      refine ⟨z1, z2, z3, by omega, fun i hi => ?_⟩
      rw [old k i (by omega) (by omega)]
      exact z5 i hi
  · unfold mt at hm
    rw [a2, a2] at hm
    obtain ⟨m1, m2⟩ := hm
    by_cases y : k = (g 6 3).toNat
    · by_cases y' : k' = (g 6 3).toNat
      · omega
      · rw [if_pos y, if_neg y'] at m1
        rw [if_neg y'] at m2
        have := (n3 k' (by omega)).2.1
        refine absurd ⟨k', by omega, m1.symm, fun i hi => ?_⟩ hno
        have := (show g' 7 (12 * k + i) = g' 7 (12 * k' + i) from m2 i (by omega))
        rw [y, a4 i hi, old k' i (by omega) (by omega)] at this
        exact this.symm
    · by_cases y' : k' = (g 6 3).toNat
      · rw [if_neg y, if_pos y'] at m1
        rw [if_pos y'] at m2
        refine absurd ⟨k, by omega, m1, fun i hi => ?_⟩ hno
        have := (show g' 7 (12 * k + i) = g' 7 (12 * k' + i) from m2 i hi)
        rw [y', a4 i hi, old k i (by omega) (by omega)] at this
        exact this
      · rw [if_neg y, if_neg y'] at m1
        rw [if_neg y'] at m2
        have := (n3 k' (by omega)).2.1
        refine n4 k k' (by omega) (by omega) ⟨m1, fun i hi => ?_⟩
        have := (show g' 7 (12 * k + i) = g' 7 (12 * k' + i) from m2 i hi)
        rw [old k i (by omega) (by omega), old k' i (by omega) (by omega)] at this
        exact this
  · by_cases y : w < g 10 4
    · obtain ⟨k, k1, k2⟩ := n5 w w0 y
      exact ⟨k, by omega, by rw [a3, if_neg (by omega)]; exact k2⟩
    · exact ⟨(g 6 3).toNat, by omega, by rw [a3, if_pos rfl]; exact (hex w (by omega) w1).symm⟩
theorem CMN_add {g g' h h' : HP} {r : Nat → Int} {l o : Int} (hN : CN g) (hm : CMN g h) (ha : nAdd g g' r l o) (hb : mAdd g h h' r l o) (hl : 1 ≤ l ∧ l ≤ 12) : CMN g' h' := by
  obtain ⟨n1, n2, n3, n4, n5⟩ := hN
  obtain ⟨a1, a2, a3, a4, a5⟩ := ha
  obtain ⟨b1, b2', b3, b4, b5⟩ := hb
  unfold CMN
  rw [a1, b1]
  refine ⟨rfl, fun k hk => ?_⟩
  rw [a2, a3, b2', b3]
  by_cases y : k = (g 6 3).toNat
  · simp only [if_pos y]
    refine ⟨trivial, trivial, fun i hi => ?_⟩
    rw [y, a4 i hi, b4 i hi]
  · simp only [if_neg y]
    obtain ⟨z1, z2, z3⟩ := hm.2 k (by omega)
    have := (n3 k (by omega)).2.1
    refine ⟨z1, z2, fun i hi => ?_⟩
    rw [a5 _ (by omega), b5 _ (by omega)]
    exact z3 i hi
theorem known_add {g g' : HP} {r r' : Nat → Int} {l l' o : Int} (hN : CN g) (ha : nAdd g g' r l o) (hk : known g r' l') : known g' r' l' := by
  obtain ⟨a1, a2, a3, a4, a5⟩ := ha
  obtain ⟨k, k1, k2, k3⟩ := hk
  have := (hN.2.2.1 k k1).2.1
  refine ⟨k, by omega, by rw [a2, if_neg (by omega)]; exact k2, fun i hi => ?_⟩
  rw [a5 _ (by omega)]
  exact k3 i hi
theorem CL0_add {g g' : HP} {r : Nat → Int} {l o : Int} (hN : CN g) (hL : CL0 g) (ha : nAdd g g' r l o) (e4 : g' 19 4 = g 19 4) (e5 : g' 19 5 = g 19 5) (e : ∀ a, 20 ≤ a → a ≤ 23 → g' a = g a) : CL0 g' := by
  obtain ⟨l1, l2, l3, l4, l5, l6⟩ := hL
  unfold CL0
  rw [e4, e5, e 20 (by decide) (by decide), e 21 (by decide) (by decide), e 22 (by decide) (by decide), e 23 (by decide) (by decide)]
  refine ⟨l1, l2, l3, runs_congr l4 (fun _ _ => rfl), l5, fun y k hk => ?_⟩
  have et : tw g' k = tw g k := by
    unfold tw
    rw [e 21 (by decide) (by decide), e 22 (by decide) (by decide)]
  rw [et]
  exact known_add hN ha (l6 y k hk)
theorem p_word {g : HP} (hI : IV g) (kd : Int) : PR mHelp_word mModel_word [.inr (.inr 0), .inl kd] [.inr (.inr 43), .inl kd] g := by
  obtain ⟨t1, t2, t3, t4⟩ := hI.1
  obtain ⟨w1, w2, w3⟩ := hI.2.1
  obtain ⟨n1, n2⟩ := hI.2.2.1
  obtain ⟨r1, r2, r3⟩ := hI.2.2.2.1
  obtain ⟨l1, l2⟩ := hI.2.2.2.2.2.1
  obtain ⟨g1, g2⟩ := hI.2.2.2.2.2.2.1
  have w60 := w1.2.1
  have w0 := w1.1
  have m90 := n1.2.1
  have m0 := n1.1
  refine ⟨_, t_Help_word g kd ⟨w0, w60⟩ ⟨m0, m90⟩ (fun k hk => (n1.2.2.1 k hk).2.1), fun r h1 hq => ?_⟩
  obtain ⟨hs, hs1, hq⟩ := hq
  have sfs : SF [1] g hs := fun a b p q => by
    have : a ≠ 2 := by rintro rfl; exact p rfl
    rw [hs1 a this]
    exact (SF.rf.up (L := [1]) (g := g) (Or.inr (by decide))) a b p q
  have e : ∀ a, 43 ≤ a → h1 a = g a := by
    have : ∀ a, 43 ≤ a → hs a = g a := fun a ha => by rw [hs1 a (by omega), up_ne (by omega)]
    rcases hq with ⟨_, _, rfl⟩ | ⟨_, _, _, rfl⟩ | ⟨_, _, _, _, rfl⟩ | ⟨_, _, _, _, _, _, rfl⟩
    · exact this
    · exact this
    · exact this
    · intro a ha
      rw [addNm_ne ⟨by omega, by omega, by omega, by omega⟩]
      unfold wAdd
      rw [up_ne (by omega), up_ne (by omega), up_ne (by omega)]
      exact this a ha
  have e16 : h1 43 16 = g 0 1 := by rw [e 43 (by decide)]; exact t3
  have e1 : h1 43 1 = g 10 4 := by rw [e 43 (by decide)]; exact w3.1
  have e6 : h1 43 6 = g 6 3 := by rw [e 43 (by decide)]; exact n2.1
  refine ⟨_, t_Model_word h1 kd (by rw [e16]; exact ⟨t1, t2⟩) (by rw [e1]; exact ⟨w0, w60⟩) (by rw [e6]; exact ⟨m0, m90⟩) (fun k hk => ?_) (fun k hk => ?_), fun r' h2 hq' => ?_⟩
  · rw [e6] at hk
    rw [e 49 (by decide), (n2.2 k hk).1]
    exact (n1.2.2.1 k hk).2.1
  · rw [e6] at hk
    rw [e 50 (by decide), (n2.2 k hk).2.1]
    exact (n1.2.2.1 k hk).2.2.1
  have gd : gdM h1 kd (g 0 1) ↔ (0 ≤ kd ∧ kd ≤ 3 ∧ spP (g 1) (g 0 1)) := by
    unfold gdM spP
    rw [e 56 (by decide)]
    constructor
    · rintro ⟨a1, a2, a3, a4, a5⟩
      exact ⟨a1, a2, a3, a4, fun i hi => by rw [← (t4 i hi).1]; exact a5 i hi⟩
    · rintro ⟨a1, a2, a3, a4, a5⟩
      exact ⟨a1, a2, a3, a4, fun i hi => by rw [(t4 i hi).1]; exact a5 i hi⟩
  have kn : spP (g 1) (g 0 1) → ((∃ k : Nat, (k : Int) < g 6 3 ∧ mtM h1 (fun j => sm (h1 56 j)) (g 0 1) k) ↔ ∃ k : Nat, (k : Int) < g 6 3 ∧ mt g (fun j => g 1 j - 97) (g 0 1) k) := by
    intro sp
    have es : ∀ i : Nat, (i : Int) < g 0 1 → sm (h1 56 i) = g 1 i := fun i hi => by
      rw [e 56 (by decide), (t4 i hi).1]
      have := sp.2.2 i hi
      unfold sm
      rw [if_neg (by omega)]
    constructor
    · rintro ⟨k, k1, k2, k3⟩
      rw [e 49 (by decide), (n2.2 k k1).1] at k2
      refine ⟨k, k1, k2, fun i hi => ?_⟩
      have := (k3 i hi).trans (es i hi)
      rw [e 48 (by decide), (n2.2 k k1).2.2 i (by omega)] at this
      show g 7 (12 * k + i) = g 1 i - 97
      omega
    · rintro ⟨k, k1, k2, k3⟩
      refine ⟨k, k1, by rw [e 49 (by decide), (n2.2 k k1).1]; exact k2, fun i hi => ?_⟩
      refine Eq.trans ?_ (es i hi).symm
      have : g 7 (12 * k + i) = g 1 i - 97 := k3 i hi
      rw [e 48 (by decide), (n2.2 k k1).2.2 i (by omega), this]
      omega
  unfold qWordM at hq'
  rw [e16, e1, e6, gd] at hq'
  have bad : h1 = hs → h2 = tpM h1 → IV h2 := by
    intro x1 x2
    subst x1
    subst x2
    refine IV_of hI (sfs.tr ((SF.rf.up (Or.inl rfl)).up (Or.inr (by decide)))) (fun _ => ?_) (fun z => absurd z (by decide)) (fun z => absurd z (by decide)) (fun z => absurd z (by decide)) (fun z => absurd z (by decide)) (fun z => absurd z (by decide)) (fun z => absurd z (by decide)) (fun z => absurd z (by decide))
    have a1 : tpM h1 43 16 = 0 := by unfold tpM; rw [up_s]
    have a2 : tpM h1 0 1 = 0 := by rw [tpM_ne (by decide), hs1 0 (by decide), up_s]
    unfold ITape
    rw [a1, a2]
    exact ⟨by omega, by omega, rfl, fun j hj => by omega⟩
  rcases hq with ⟨c1, rfl, c3⟩ | ⟨c1, c2, rfl, c3⟩ | ⟨c1, c2, c3, rfl, c4⟩ | ⟨c1, c2, c3, c4, rfl, c5, c6⟩
  · rcases hq' with ⟨d1, rfl, d3⟩ | ⟨d1, _⟩ | ⟨d1, _⟩ | ⟨d1, _⟩
    · exact ⟨rfl, bad c3 d3⟩
    · exact absurd d1 c1
    · exact absurd d1 c1
    · exact absurd d1 c1
  · rw [kn c1.2.2] at hq'
    rcases hq' with ⟨d1, _⟩ | ⟨d1, d2, rfl, d3⟩ | ⟨d1, d2, _⟩ | ⟨d1, d2, _⟩
    · exact absurd c1 d1
    · exact ⟨rfl, bad c3 d3⟩
    · exact absurd c2 d2
    · exact absurd c2 d2
  · rw [kn c1.2.2] at hq'
    rcases hq' with ⟨d1, _⟩ | ⟨d1, d2, _⟩ | ⟨d1, d2, d3, rfl, d4⟩ | ⟨d1, d2, d3, d4, _⟩
    · exact absurd c1 d1
    · exact absurd d2 c2
    · exact ⟨rfl, bad c4 d4⟩
    · omega
  · rw [kn c1.2.2] at hq'
    rcases hq' with ⟨d1, _⟩ | ⟨d1, d2, _⟩ | ⟨d1, d2, d3, _⟩ | ⟨d1, d2, d3, d4, rfl, d5⟩
    · exact absurd c1 d1
    · exact absurd d2 c2
    · omega
    · refine ⟨rfl, ?_⟩
      obtain ⟨q1, q2, q3, q4, q5⟩ := c1
      -- the class's heap
      have k0 : h1 0 1 = 0 := by
        rw [c6, addNm_ne (by decide)]
        unfold wAdd
        rw [up_n (by decide), up_n (by decide), up_n (by decide), hs1 0 (by decide), up_s]
      have hsr : ∀ a, a ≠ 0 → a ≠ 2 → hs a = g a := fun a a1 a2 => by rw [hs1 a a2, up_ne a1]
      have kr : ∀ a, a ≠ 0 → a ≠ 2 → a ≠ 6 → a ≠ 7 → a ≠ 8 → a ≠ 9 → a ≠ 10 → a ≠ 11 → a ≠ 13 → h1 a = g a := fun a x0 x2 x6 x7 x8 x9 x10 x11 x13 => by
        rw [c6, addNm_ne ⟨x6, x7, x8, x9⟩]
        unfold wAdd
        rw [up_ne x10, up_ne x13, up_ne x11, hsr a x0 x2]
      have k10 : h1 10 4 = g 10 4 + 1 := by
        rw [c6, addNm_ne (by decide)]
        unfold wAdd
        rw [up_s, hsr 10 (by decide) (by decide)]
      have k11 : ∀ j, h1 11 j = if j = (g 10 4).toNat then kd else g 11 j := fun j => by
        rw [c6, addNm_ne (by decide)]
        unfold wAdd
        rw [up_n (by decide), up_n (by decide), up_a, hsr 10 (by decide) (by decide), hsr 11 (by decide) (by decide)]
      have k13 : ∀ j, h1 13 j = if j = (g 10 4).toNat then (if kd = 1 then 0 else 1) else g 13 j := fun j => by
        rw [c6, addNm_ne (by decide)]
        unfold wAdd
        rw [up_n (by decide), up_a, up_n (by decide), hsr 10 (by decide) (by decide), hsr 13 (by decide) (by decide)]
      have wr' : ∀ a, a ≠ 0 → a ≠ 2 → a ≠ 10 → a ≠ 11 → a ≠ 13 → wAdd hs kd a = g a := fun a x0 x2 x10 x11 x13 => by
        unfold wAdd
        rw [up_ne x10, up_ne x13, up_ne x11, hsr a x0 x2]
      have w22 : ∀ i, wAdd hs kd 2 i = hs 2 i := fun i => by
        unfold wAdd
        rw [up_n (by decide), up_n (by decide), up_n (by decide)]
      have na1 : nAdd g h1 (fun j => g 1 j - 97) (g 0 1) (g 10 4) := by
        rw [c6]
        unfold nAdd addNm
        rw [wr' 6 (by decide) (by decide) (by decide) (by decide) (by decide)]
        refine ⟨by rw [up_s], fun j => ?_, fun j => ?_, fun i hi => ?_, fun j hj => ?_⟩
        · rw [up_n (by decide), up_n (by decide), up_a, cpy_ne (by decide), wr' 8 (by decide) (by decide) (by decide) (by decide) (by decide)]
        · rw [up_n (by decide), up_a, up_n (by decide), cpy_ne (by decide), wr' 9 (by decide) (by decide) (by decide) (by decide) (by decide)]
        · rw [up_n (by decide), up_n (by decide), up_n (by decide)]
          unfold cpy
          rw [if_pos (by omega), w22, show (0 : Int).toNat + (12 * (g 6 3).toNat + i - (g 6 3 * 12).toNat) = i by omega]
          exact c5 i hi
        · rw [up_n (by decide), up_n (by decide), up_n (by decide)]
          unfold cpy
          rw [if_neg (by omega), wr' 7 (by decide) (by decide) (by decide) (by decide) (by decide)]
      -- the reference's
      have j0 : ∀ a, a ≠ 43 → a ≠ 44 → a ≠ 48 → a ≠ 49 → a ≠ 50 → h2 a = h1 a := fun a x1 x2 x3 x4 x5 => by
        rw [d5, up_ne x1]
        unfold addM
        rw [up_ne x1, up_ne x5, up_ne x4, cpy_ne x3, up_ne x2, tpM_ne x1]
      have t6 : up (tpM h1) 44 (g 10 4).toNat kd 43 6 = g 6 3 := by rw [up_n (by decide), tpM_f (by decide) (by decide)]; exact e6
      have j43 : ∀ b, b ≠ 0 → b ≠ 1 → b ≠ 6 → b ≠ 16 → h2 43 b = g 43 b := fun b x0 x1 x6 x16 => by
        rw [d5, up_f x1]
        unfold addM
        rw [up_f x6, up_n (by decide), up_n (by decide), cpy_ne (by decide), up_n (by decide), tpM_f x0 x16, e 43 (by decide)]
      have j1 : h2 43 1 = g 10 4 + 1 := by rw [d5, up_s]
      have j16 : h2 43 16 = 0 := by
        rw [d5, up_f (by decide)]
        unfold addM
        rw [up_f (by decide), up_n (by decide), up_n (by decide), cpy_ne (by decide), up_n (by decide)]
        unfold tpM
        rw [up_s]
      have j44 : ∀ j, h2 44 j = if j = (g 10 4).toNat then kd else g 44 j := fun j => by
        rw [d5, up_n (by decide)]
        unfold addM
        rw [up_n (by decide), up_n (by decide), up_n (by decide), cpy_ne (by decide), up_a, tpM_ne (by decide), e 44 (by decide)]
      have ma1 : mAdd g h1 h2 (fun j => g 1 j - 97) (g 0 1) (g 10 4) := by
        rw [d5]
        unfold mAdd addM
        rw [t6]
        refine ⟨by rw [up_f (by decide), up_s], fun j => ?_, fun j => ?_, fun i hi => ?_, fun j hj => ?_⟩
        · rw [up_n (by decide), up_n (by decide), up_n (by decide), up_a, cpy_ne (by decide), up_n (by decide), tpM_ne (by decide)]
        · rw [up_n (by decide), up_n (by decide), up_a, up_n (by decide), cpy_ne (by decide), up_n (by decide), tpM_ne (by decide)]
        · rw [up_n (by decide), up_n (by decide), up_n (by decide), up_n (by decide)]
          unfold cpy
          rw [if_pos (by omega), up_n (by decide), tpM_ne (by decide), e 56 (by decide), show (0 : Int).toNat + (12 * (g 6 3).toNat + i - (12 * g 6 3).toNat) = i by omega, (t4 i hi).1]
          show g 1 i = g 1 i - 97 + 97
          omega
        · rw [up_n (by decide), up_n (by decide), up_n (by decide), up_n (by decide)]
          unfold cpy
          rw [if_neg (by omega), up_n (by decide), tpM_ne (by decide)]
      have lt : ∀ a, a < 43 → h2 a = h1 a := fun a ha => j0 a (by omega) (by omega) (by omega) (by omega) (by omega)
      have na : nAdd g h2 (fun j => g 1 j - 97) (g 0 1) (g 10 4) := by
        unfold nAdd at *
        rw [lt 6 (by decide), lt 7 (by decide), lt 8 (by decide), lt 9 (by decide)]
        exact na1
      have cm1 : CMN g h1 := by
        unfold CMN at *
        rw [e 43 (by decide), e 48 (by decide), e 49 (by decide), e 50 (by decide)]
        exact n2
      have hno : ¬ known g (fun j => g 1 j - 97) (g 0 1) := fun z => c2 z
      have s : Swords h2 := by
        unfold Swords CW IWords CMW
        rw [lt 10 (by decide), lt 11 (by decide), lt 12 (by decide), lt 13 (by decide), lt 14 (by decide), j1, k10, kr 12 (by decide) (by decide) (by decide) (by decide) (by decide) (by decide) (by decide) (by decide) (by decide), kr 14 (by decide) (by decide) (by decide) (by decide) (by decide) (by decide) (by decide) (by decide) (by decide), j0 45 (by decide) (by decide) (by decide) (by decide) (by decide), j0 46 (by decide) (by decide) (by decide) (by decide) (by decide), j0 47 (by decide) (by decide) (by decide) (by decide) (by decide), e 45 (by decide), e 46 (by decide), e 47 (by decide)]
        simp only [k11, k13, j44]
        have n45 := (w2.2.2.2.2 (g 10 4).toNat (by omega)).2.2.2.2.2 (by omega)
        refine ⟨⟨by omega, by omega, fun j hj => ?_, fun j hj => ?_⟩, ⟨by omega, by omega, trivial, fun j hj => ?_, fun j hj => ?_⟩, trivial, fun j hj => ?_⟩
        · by_cases y : j = (g 10 4).toNat
          · simp only [if_pos y]
            exact ⟨q1, q2, fun z => by rw [if_neg z]⟩
          · simp only [if_neg y]
            exact w1.2.2.1 j (by omega)
        · obtain ⟨z1, z2⟩ := w1.2.2.2 j hj
          refine ⟨?_, z2⟩
          by_cases y : j = (g 10 4).toNat
          · simp only [if_pos y]
            split
            · exact Or.inl rfl
            · exact Or.inr rfl
          · simp only [if_neg y]
            exact z1
        · by_cases y : j = (g 10 4).toNat
          · simp only [if_pos y]
            refine ⟨trivial, q1, q2, ?_⟩
            rw [y, n45]
          · simp only [if_neg y]
            exact w2.2.2.2.1 j (by omega)
        · obtain ⟨z1, z2, z3, z4, z5, z6⟩ := w2.2.2.2.2 j hj
          refine ⟨z1, z2, z3, z4, ?_, fun x => z6 (by omega)⟩
          by_cases y : j = (g 10 4).toNat
          · simp only [if_pos y]
            split
            · exact Or.inl rfl
            · exact Or.inr rfl
          · simp only [if_neg y]
            exact z5
        · by_cases y : j = (g 10 4).toNat
          · simp only [if_pos y]
            obtain ⟨z1, z2, z3, _⟩ := w2.2.2.2.2 j (by omega)
            refine ⟨trivial, z1, z2, ?_⟩
            rw [y, n45]
            by_cases x : kd = 1
            · rw [if_pos x]
              exact ⟨fun _ => ⟨x, rfl⟩, fun _ => rfl⟩
            · rw [if_neg x]
              exact ⟨fun z => absurd z (by decide), fun z => absurd z.1 x⟩
          · simp only [if_neg y]
            exact w3.2 j (by omega)
      refine IV_of (L := [1, 2, 3, 9]) hI ?_ (fun _ => ?_) (fun _ => s) (fun _ => ⟨?_, ?_⟩) (fun _ => ?_) (fun z => absurd z (by decide)) (fun _ => ⟨?_, ?_⟩) (fun _ => ?_) (fun z => absurd z (by decide))
      · intro a b p q
        have x0 : ¬ (a = 0) := by
          rintro rfl
          have s0 : sid 0 b = if b = 1 then 1 else 0 := rfl
          rw [s0] at p q
          by_cases y : b = 1
          · rw [if_pos y] at q; exact q (by decide)
          · rw [if_neg y] at p; exact p rfl
        have x2 : a ≠ 2 := by rintro rfl; exact p rfl
        have x6 : a ≠ 6 := by
          rintro rfl
          have s0 : sid 6 b = if b = 3 then 3 else 0 := rfl
          rw [s0] at p q
          by_cases y : b = 3
          · rw [if_pos y] at q; exact q (by decide)
          · rw [if_neg y] at p; exact p rfl
        have x10 : a ≠ 10 := by
          rintro rfl
          have s0 : sid 10 b = if b = 4 then 2 else 0 := rfl
          rw [s0] at p q
          by_cases y : b = 4
          · rw [if_pos y] at q; exact q (by decide)
          · rw [if_neg y] at p; exact p rfl
        have x7 : a ≠ 7 := by rintro rfl; exact q (by show (3 : Nat) ∈ [1, 2, 3, 9]; decide)
        have x8 : a ≠ 8 := by rintro rfl; exact q (by show (3 : Nat) ∈ [1, 2, 3, 9]; decide)
        have x9 : a ≠ 9 := by rintro rfl; exact q (by show (3 : Nat) ∈ [1, 2, 3, 9]; decide)
        have x11 : a ≠ 11 := by rintro rfl; exact q (by show (2 : Nat) ∈ [1, 2, 3, 9]; decide)
        have x13 : a ≠ 13 := by rintro rfl; exact q (by show (9 : Nat) ∈ [1, 2, 3, 9]; decide)
        have x44 : a ≠ 44 := by rintro rfl; exact q (by show (2 : Nat) ∈ [1, 2, 3, 9]; decide)
        have x48 : a ≠ 48 := by rintro rfl; exact q (by show (3 : Nat) ∈ [1, 2, 3, 9]; decide)
        have x49 : a ≠ 49 := by rintro rfl; exact q (by show (3 : Nat) ∈ [1, 2, 3, 9]; decide)
        have x50 : a ≠ 50 := by rintro rfl; exact q (by show (3 : Nat) ∈ [1, 2, 3, 9]; decide)
        by_cases x43 : a = 43
        · subst x43
          refine j43 b ?_ ?_ ?_ ?_
          · rintro rfl; exact p rfl
          · rintro rfl; exact q (by decide)
          · rintro rfl; exact q (by decide)
          · rintro rfl; exact q (by decide)
        · rw [j0 a x43 x44 x48 x49 x50, kr a x0 x2 x6 x7 x8 x9 x10 x11 x13]
      · unfold ITape
        rw [lt 0 (by decide), k0, j16]
        exact ⟨by omega, by omega, rfl, fun j hj => by omega⟩
      · exact CN_add n1 na ⟨q3, q4⟩ (fun i hi => by have := q5 i hi; omega) hno (by omega) (by rw [lt 10 (by decide), k10]; omega) (by rw [lt 10 (by decide), k10]; omega) (fun w y1 y2 => by rw [lt 10 (by decide), k10] at y2; omega)
      · have := CMN_add n1 cm1 na ma1 ⟨q3, q4⟩
        exact this
      · unfold Srules CR CMR okTok
        rw [lt 10 (by decide), lt 11 (by decide), lt 15 (by decide), lt 16 (by decide), lt 17 (by decide), lt 18 (by decide), k10, kr 15 (by decide) (by decide) (by decide) (by decide) (by decide) (by decide) (by decide) (by decide) (by decide), kr 16 (by decide) (by decide) (by decide) (by decide) (by decide) (by decide) (by decide) (by decide) (by decide), kr 17 (by decide) (by decide) (by decide) (by decide) (by decide) (by decide) (by decide) (by decide) (by decide), kr 18 (by decide) (by decide) (by decide) (by decide) (by decide) (by decide) (by decide) (by decide) (by decide), j43 10 (by decide) (by decide) (by decide) (by decide), j0 51 (by decide) (by decide) (by decide) (by decide) (by decide), j0 52 (by decide) (by decide) (by decide) (by decide) (by decide), j0 53 (by decide) (by decide) (by decide) (by decide) (by decide), e 51 (by decide), e 52 (by decide), e 53 (by decide)]
        simp only [k11]
        refine ⟨⟨r1.1, r1.2.1, fun k hk => ?_, r1.2.2.2⟩, r2, r3⟩
        obtain ⟨z1, z2, z3, z4⟩ := r1.2.2.1 k hk
        refine ⟨z1, by omega, by rw [if_neg (by omega)]; exact z3, fun i hi => ?_⟩
        rcases z4 i hi with y | ⟨y1, y2, y3⟩
        · exact Or.inl y
        · exact Or.inr ⟨y1, by omega, by rw [if_neg (by omega)]; exact y3⟩
      · refine CL0_add n1 l1 na ?_ ?_ (fun a a1 a2 => ?_)
        · rw [lt 19 (by decide), kr 19 (by decide) (by decide) (by decide) (by decide) (by decide) (by decide) (by decide) (by decide) (by decide)]
        · rw [lt 19 (by decide), kr 19 (by decide) (by decide) (by decide) (by decide) (by decide) (by decide) (by decide) (by decide) (by decide)]
        · rw [lt a (by omega), kr a (by omega) (by omega) (by omega) (by omega) (by omega) (by omega) (by omega) (by omega) (by omega)]
      · unfold CML at *
        rw [lt 19 (by decide), lt 20 (by decide), kr 19 (by decide) (by decide) (by decide) (by decide) (by decide) (by decide) (by decide) (by decide) (by decide), kr 20 (by decide) (by decide) (by decide) (by decide) (by decide) (by decide) (by decide) (by decide) (by decide), j43 18 (by decide) (by decide) (by decide) (by decide), j43 21 (by decide) (by decide) (by decide) (by decide), j0 57 (by decide) (by decide) (by decide) (by decide) (by decide), e 57 (by decide)]
        exact l2
      · have k36 : ∀ a, 36 ≤ a → a < 43 → h2 a = g a := fun a a1 a2 => by rw [lt a a2, kr a (by omega) (by omega) (by omega) (by omega) (by omega) (by omega) (by omega) (by omega) (by omega)]
        unfold Slog CLg CMg at *
        rw [k36 36 (by decide) (by decide), k36 37 (by decide) (by decide), k36 38 (by decide) (by decide), k36 39 (by decide) (by decide), k36 40 (by decide) (by decide), lt 10 (by decide), k10, j43 39 (by decide) (by decide) (by decide) (by decide), j0 69 (by decide) (by decide) (by decide) (by decide) (by decide), j0 70 (by decide) (by decide) (by decide) (by decide) (by decide), j0 71 (by decide) (by decide) (by decide) (by decide) (by decide), j0 72 (by decide) (by decide) (by decide) (by decide) (by decide), e 69 (by decide), e 70 (by decide), e 71 (by decide), e 72 (by decide)]
        refine ⟨⟨g1.1, g1.2.1, fun k hk => ?_⟩, g2⟩
        obtain ⟨z1, z2, z3⟩ := g1.2.2 k hk
        exact ⟨z1, by omega, z3⟩
