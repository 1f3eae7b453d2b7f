/-! the pair of learn -/
theorem p_learn {g : HP} (hI : IV g) (i : Int) : PR mHelp_learn mModel_learn [.inr (.inr 0), .inl i] [.inr (.inr 43), .inl i] g := by
  have hC := hI.ci
  have hG := hI.cl
  obtain ⟨n1, n2⟩ := hI.2.2.1
  obtain ⟨l1, l2⟩ := hI.2.2.2.2.2.1
  obtain ⟨g1, g2⟩ := hI.2.2.2.2.2.2.1
  have m90 := n1.2.1
  have m0 := n1.1
  have g40 := g1.2.1
  have g0 := g1.1
  refine ⟨_, t_Help_learn g hC hG i, fun r h1 hq => ?_⟩
  have e : ∀ a, 43 ≤ a → h1 a = g a := by
    obtain ⟨q, _, ⟨_, _, rfl⟩ | ⟨p, _, _, ⟨_, _, rfl⟩ | ⟨_, _, _, rfl⟩ | ⟨_, _, _, h3, f, rfl⟩⟩⟩ := hq
    · exact fun _ _ => rfl
    · exact fun _ _ => rfl
    · exact fun _ _ => rfl
    · intro a ha
      rw [up_ne (by omega), f.1 a (by omega), addNm_ne ⟨by omega, by omega, by omega, by omega⟩]
  have hcm := CM_ge e hI.cm
  have hcg := CMg_ge e hI.cg
  refine ⟨_, t_Model_learn g h1 hC hG hcm hcg i, fun r' h2 hq' => ?_⟩
  obtain ⟨q, hp1, hq⟩ := hq
  obtain ⟨q', hp2, hq'⟩ := hq'
  have eq := pkP_uni hp1 hp2
  subst eq
  rcases hq with ⟨c1, rfl, rfl⟩ | ⟨p, c1, c2, hq⟩
  · rcases hq' with ⟨d1, rfl, ms⟩ | ⟨p', d1, d2, _⟩
    · exact ⟨rfl, IV_0 hI (SF.ms ms)⟩
    · omega
  · rcases hq' with ⟨d1, rfl, ms⟩ | ⟨p', d1, d2, hq'⟩
    · omega
    · obtain rfl : p = p' := by omega
      rcases hq with ⟨k1, rfl, rfl⟩ | ⟨k1, k2, rfl, rfl⟩ | ⟨k1, k2, rfl, h3, f, hh1⟩
      · rcases hq' with ⟨x1, rfl, ms⟩ | ⟨x1, _⟩ | ⟨x1, _⟩
        · exact ⟨rfl, IV_0 hI (SF.ms ms)⟩
        · exact absurd k1 x1
        · exact absurd k1 x1
      · rcases hq' with ⟨x1, _⟩ | ⟨x1, x2, rfl, ms⟩ | ⟨x1, x2, _⟩
        · exact absurd x1 k1
        · exact ⟨rfl, IV_0 hI (SF.ms ms)⟩
        · omega
      · rcases hq' with ⟨x1, _⟩ | ⟨x1, x2, _⟩ | ⟨x1, x2, rfl, h0, ms, hm, fm, hh2⟩
        · exact absurd x1 k1
        · omega
        · refine ⟨rfl, ?_⟩
          obtain ⟨y1, y2, y3⟩ := g1.2.2 p c2
          obtain ⟨G, hGG⟩ : ∃ G, addNm g 37 ((12 * p : Nat) : Int) (g 38 p) (g 39 p) = G := ⟨_, rfl⟩
          rw [hGG] at f hh1
          have Gr : ∀ a, a ≠ 6 → a ≠ 7 → a ≠ 8 → a ≠ 9 → G a = g a := fun a z1 z2 z3 z4 => by rw [← hGG]; exact addNm_ne ⟨z1, z2, z3, z4⟩
          rw [Gr 36 (by decide) (by decide) (by decide) (by decide)] at f hh1
          obtain ⟨f1, f2, f3⟩ := f
          obtain ⟨M, hMM⟩ : ∃ M, addM h0 69 ((12 * p : Nat) : Int) (g 38 p) (g 39 p) = M := ⟨_, rfl⟩
          rw [hMM] at fm
          obtain ⟨u1, u2, u3'⟩ := fm
          have hcm0 := hcm.ms ms
          have hcg0 := hcg.ms ms
          have e6 : h0 43 6 = g 6 3 := hcm0.2.1.1
          have Mr : ∀ a, a ≠ 43 → a ≠ 48 → a ≠ 49 → a ≠ 50 → M a = h0 a := fun a z1 z2 z3 z4 => by rw [← hMM]; unfold addM; rw [up_ne z1, up_ne z4, up_ne z3, cpy_ne z2]
          have M43 : ∀ b, b ≠ 6 → M 43 b = h0 43 b := fun b hb => by rw [← hMM]; unfold addM; rw [up_f hb, up_n (by decide), up_n (by decide), cpy_ne (by decide)]
          -- rows of the last heap
          have lt : ∀ a, a < 43 → h2 a = h1 a := fun a ha => by rw [hh2, up_ne (by omega), u1 a (by omega), Mr a (by omega) (by omega) (by omega) (by omega), ms.1 a (by omega)]
          have h1r : ∀ a, a < 36 ∨ 41 ≤ a → h1 a = G a := fun a ha => by rw [hh1, up_ne (by omega), f1 a (by omega)]
          have h1l : ∀ a, 37 ≤ a → a < 41 → h1 a = h3 a := fun a z1 z2 => by rw [hh1, up_ne (by omega)]
          have na : nAdd g h2 (fun j => g 37 (12 * p + j)) (g 38 p) (g 39 p) := by
            have v : ∀ a, a < 36 → h2 a = G a := fun a ha => by rw [lt a (by omega), h1r a (by omega)]
            unfold nAdd
            rw [v 6 (by decide), v 7 (by decide), v 8 (by decide), v 9 (by decide), ← hGG]
            unfold addNm
            refine ⟨by rw [up_s], fun j => ?_, fun j => ?_, fun j hj => ?_, fun j hj => ?_⟩
            · rw [up_n (by decide), up_n (by decide), up_a, cpy_ne (by decide)]
            · rw [up_n (by decide), up_a, up_n (by decide), cpy_ne (by decide)]
            · rw [up_n (by decide), up_n (by decide), up_n (by decide)]
              unfold cpy
              rw [if_pos (by omega), show (((12 * p : Nat) : Int)).toNat + (12 * (g 6 3).toNat + j - (g 6 3 * 12).toNat) = 12 * p + j by omega]
            · rw [up_n (by decide), up_n (by decide), up_n (by decide)]
              unfold cpy
              rw [if_neg (by omega)]
          have j0 : ∀ a, a ≠ 43 → a < 69 ∨ 73 ≤ a → h2 a = M a := fun a z1 z2 => by rw [hh2, up_ne z1, u1 a z2]
          have j43 : ∀ b, b ≠ 39 → h2 43 b = M 43 b := fun b hb => by rw [hh2, up_f hb, u1 43 (by decide)]
          have ma : mAdd g h0 h2 (fun j => g 37 (12 * p + j)) (g 38 p) (g 39 p) := by
            unfold mAdd
            rw [j0 48 (by decide) (by decide), j0 49 (by decide) (by decide), j0 50 (by decide) (by decide), j43 6 (by decide), ← hMM]
            unfold addM
            rw [e6]
            refine ⟨by rw [up_s], fun j => ?_, fun j => ?_, fun j hj => ?_, fun j hj => ?_⟩
            · rw [up_n (by decide), up_n (by decide), up_a, cpy_ne (by decide)]
            · rw [up_n (by decide), up_a, up_n (by decide), cpy_ne (by decide)]
            · rw [up_n (by decide), up_n (by decide), up_n (by decide)]
              unfold cpy
              rw [if_pos (by omega), show (((12 * p : Nat) : Int)).toNat + (12 * (g 6 3).toNat + j - (12 * g 6 3).toNat) = 12 * p + j by omega]
              exact (hcg0.2 p c2).2.2.2 j hj
            · rw [up_n (by decide), up_n (by decide), up_n (by decide)]
              unfold cpy
              rw [if_neg (by omega)]
          have h10 : h2 10 = g 10 := by rw [lt 10 (by decide), h1r 10 (by decide), Gr 10 (by decide) (by decide) (by decide) (by decide)]
          have k36 : h2 36 4 = cntP (kpG g p) (g 36 4).toNat := by rw [lt 36 (by decide), hh1, up_s]
          have k39 : h2 43 39 = cntP (kpG g p) (g 36 4).toNat := by rw [hh2, up_s]
          have hin := cntP_in (kpG g p) (g 36 4).toNat
          have cls : ∀ c : Nat, (c : Int) < cntP (kpG g p) (g 36 4).toNat → ∃ q : Nat, (q : Int) < g 36 4 ∧ (h2 38 c = g 38 q ∧ h2 39 c = g 39 q ∧ h2 40 c = g 40 q ∧ ∀ i : Nat, i < 12 → h2 37 (12 * c + i) = g 37 (12 * q + i)) ∧ lgM g h2 c q := by
            intro c hc
            obtain ⟨q, q1, q2, q3⟩ := cntP_ex (kpG g p) (g 36 4).toNat c (by omega) hc
            have a1 := f2 q q1 q2
            have a2 := u2 q q1 q2
            rw [show (cntP (kpG g p) q).toNat = c by omega] at a1 a2
            rw [Gr 37 (by decide) (by decide) (by decide) (by decide), Gr 38 (by decide) (by decide) (by decide) (by decide), Gr 39 (by decide) (by decide) (by decide) (by decide), Gr 40 (by decide) (by decide) (by decide) (by decide)] at a1
            refine ⟨q, by omega, ?_, ?_⟩
            · rw [lt 37 (by decide), lt 38 (by decide), lt 39 (by decide), lt 40 (by decide), h1l 37 (by decide) (by decide), h1l 38 (by decide) (by decide), h1l 39 (by decide) (by decide), h1l 40 (by decide) (by decide)]
              exact a1
            · unfold lgM at *
              rw [hh2, up_ne (by decide), up_ne (by decide), up_ne (by decide), up_ne (by decide)]
              exact a2
          refine IV_of (L := [3, 7]) hI ?_ (fun z => absurd z (by decide)) (fun z => absurd z (by decide)) (fun _ => ⟨?_, ?_⟩) (fun z => absurd z (by decide)) (fun z => absurd z (by decide)) (fun _ => ⟨?_, ?_⟩) (fun _ => ⟨?_, ?_⟩) (fun z => absurd z (by decide))
          · intro a b s1 s2
            have x6 : a ≠ 6 := by
              rintro rfl
              have s0 : sid 6 b = if b = 3 then 3 else 0 := rfl
              rw [s0] at s1 s2
              by_cases y : b = 3
              · rw [if_pos y] at s2; exact s2 (by decide)
              · rw [if_neg y] at s1; exact s1 rfl
            have x36 : a ≠ 36 := by
              rintro rfl
              have s0 : sid 36 b = if b = 4 then 7 else 0 := rfl
              rw [s0] at s1 s2
              by_cases y : b = 4
              · rw [if_pos y] at s2; exact s2 (by decide)
              · rw [if_neg y] at s1; exact s1 rfl
            have x7 : a ≠ 7 := by rintro rfl; exact s2 (by show (3 : Nat) ∈ [3, 7]; decide)
            have x8 : a ≠ 8 := by rintro rfl; exact s2 (by show (3 : Nat) ∈ [3, 7]; decide)
            have x9 : a ≠ 9 := by rintro rfl; exact s2 (by show (3 : Nat) ∈ [3, 7]; decide)
            have x48 : a ≠ 48 := by rintro rfl; exact s2 (by show (3 : Nat) ∈ [3, 7]; decide)
            have x49 : a ≠ 49 := by rintro rfl; exact s2 (by show (3 : Nat) ∈ [3, 7]; decide)
            have x50 : a ≠ 50 := by rintro rfl; exact s2 (by show (3 : Nat) ∈ [3, 7]; decide)
            have x37 : a ≠ 37 := by rintro rfl; exact s2 (by show (7 : Nat) ∈ [3, 7]; decide)
            have x38 : a ≠ 38 := by rintro rfl; exact s2 (by show (7 : Nat) ∈ [3, 7]; decide)
            have x39 : a ≠ 39 := by rintro rfl; exact s2 (by show (7 : Nat) ∈ [3, 7]; decide)
            have x40 : a ≠ 40 := by rintro rfl; exact s2 (by show (7 : Nat) ∈ [3, 7]; decide)
            have x69 : a ≠ 69 := by rintro rfl; exact s2 (by show (7 : Nat) ∈ [3, 7]; decide)
            have x70 : a ≠ 70 := by rintro rfl; exact s2 (by show (7 : Nat) ∈ [3, 7]; decide)
            have x71 : a ≠ 71 := by rintro rfl; exact s2 (by show (7 : Nat) ∈ [3, 7]; decide)
            have x72 : a ≠ 72 := by rintro rfl; exact s2 (by show (7 : Nat) ∈ [3, 7]; decide)
            by_cases z : 43 ≤ a ∧ a < 77
            · by_cases x43 : a = 43
              · subst x43
                rw [j43 b (by rintro rfl; exact s2 (by decide)), M43 b (by rintro rfl; exact s2 (by decide)), ms.2 43 b (sid_ms s1 (by decide) (by decide)), e 43 (by decide)]
              · rw [j0 a x43 (by omega), Mr a x43 x48 x49 x50, ms.2 a b (sid_ms s1 z.1 z.2), e a z.1]
            · by_cases y : a < 43
              · rw [lt a y, h1r a (by omega), Gr a x6 x7 x8 x9]
              · rw [j0 a (by omega) (by omega), Mr a (by omega) x48 x49 x50, ms.1 a (by omega), e a (by omega)]
          · exact CN_add n1 na y1 y3 k1 (by omega) (by rw [h10]; exact y2) (by rw [h10]; exact Int.le_refl _) (fun w z1 z2 => by rw [h10] at z2; omega)
          · exact CMN_add n1 hcm0.2.1 na ma y1
          · have v : ∀ a, a < 36 → a ≠ 6 → a ≠ 7 → a ≠ 8 → a ≠ 9 → h2 a = g a := fun a ha z1 z2 z3 z4 => by rw [lt a (by omega), h1r a (by omega), Gr a z1 z2 z3 z4]
            exact CL0_add n1 l1 na (by rw [v 19 (by decide) (by decide) (by decide) (by decide) (by decide)]) (by rw [v 19 (by decide) (by decide) (by decide) (by decide) (by decide)]) (fun a z1 z2 => v a (by omega) (by omega) (by omega) (by omega) (by omega))
          · have v : ∀ a, a < 36 → a ≠ 6 → a ≠ 7 → a ≠ 8 → a ≠ 9 → h2 a = g a := fun a ha z1 z2 z3 z4 => by rw [lt a (by omega), h1r a (by omega), Gr a z1 z2 z3 z4]
            have hml := hcm0.2.2.2.2
            unfold CML at *
            rw [v 19 (by decide) (by decide) (by decide) (by decide) (by decide), v 20 (by decide) (by decide) (by decide) (by decide) (by decide), j43 18 (by decide), j43 21 (by decide), M43 18 (by decide), M43 21 (by decide), j0 57 (by decide) (by decide), Mr 57 (by decide) (by decide) (by decide) (by decide)]
            exact hml
          · unfold CLg
            rw [k36, h10]
            refine ⟨by omega, by omega, fun c hc => ?_⟩
            obtain ⟨q, q1, ⟨q2, q3, q4, q5⟩, _⟩ := cls c hc
            obtain ⟨z1, z2, z3⟩ := g1.2.2 q q1
            rw [q2, q3]
            exact ⟨z1, z2, fun i hi => by rw [q5 i (by omega)]; exact z3 i hi⟩
          · unfold CMg
            rw [k36, k39]
            refine ⟨rfl, fun c hc => ?_⟩
            obtain ⟨q, q1, ⟨q2, q3, q4, q5⟩, p1, p2, p3, p4⟩ := cls c hc
            obtain ⟨z1, z2, z3⟩ := g1.2.2 q q1
            rw [q2, q3, q4]
            exact ⟨p1, p2, p3, fun i hi => by rw [q5 i (by omega)]; exact p4 i hi⟩
