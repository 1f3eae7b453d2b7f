/-! the pairs of line, edits, fix, choose -/
theorem p_line {g : HP} (hI : IV g) : PR mHelp_line mModel_line [.inr (.inr 0)] [.inr (.inr 43)] g := by
  obtain ⟨t1, t2, t3, t4⟩ := hI.1
  refine ⟨_, t_Help_line g ⟨t1, t2⟩, fun r h1 hq => ?_⟩
  have e : ∀ a, 43 ≤ a → h1 a = g a := by
    rcases hq with ⟨_, _, rfl⟩ | ⟨_, _, ⟨f1, f2⟩, _⟩
    · exact fun a ha => up_ne (by omega)
    · intro a ha
      rw [f1 a (by omega) (by omega) (by omega) (by omega)]
      unfold bcm
      rw [up_ne (by omega), up_ne (by omega), cpy_ne (by omega), up_ne (by omega)]
  have e16 : h1 43 16 = g 0 1 := by rw [e 43 (by decide)]; exact t3
  refine ⟨_, t_Model_line h1 (by rw [e16]; exact ⟨t1, t2⟩), fun r' h2 hq' => ?_⟩
  have erc : rc (h1 56) (g 0 1).toNat = rc (g 1) (g 0 1).toNat := rc_congr _ (fun i hi => by rw [e 56 (by decide)]; exact (t4 i (by omega)).1)
  unfold qLineM at hq'
  rw [e16, erc] at hq'
  rcases hq with ⟨c1, rfl, rfl⟩ | ⟨c1, rfl, ⟨f1, f2⟩, c2, c3, c4⟩
  · rcases hq' with ⟨d1, rfl, rfl⟩ | ⟨d1, _⟩
    · refine ⟨rfl, IV_of (L := [1]) hI (((SF.rf.up (Or.inr (by decide))).up (Or.inl rfl)).up (Or.inr (by decide))) (fun _ => ?_) (fun z => absurd z (by decide)) (fun z => absurd z (by decide)) (fun z => absurd z (by decide)) (fun z => absurd z (by decide)) (fun z => absurd z (by decide)) (fun z => absurd z (by decide)) (fun z => absurd z (by decide))⟩
      have a1 : tpM (up g 0 1 0) 43 16 = 0 := by unfold tpM; rw [up_s]
      have a2 : tpM (up g 0 1 0) 0 1 = 0 := by rw [tpM_ne (by decide), up_s]
      unfold ITape
      rw [a1, a2]
      exact ⟨by omega, by omega, rfl, fun j hj => by omega⟩
    · omega
  · rcases hq' with ⟨d1, _⟩ | ⟨d1, rfl, d2⟩
    · omega
    · have b4 : bcm (up g 0 1 0) (g 0 1) 19 4 = g 0 1 := by unfold bcm; rw [up_f (by decide), up_s]
      have b6 : bcm (up g 0 1 0) (g 0 1) 19 6 = -1 := by unfold bcm; rw [up_s]
      have b20 : ∀ j : Nat, (j : Int) < g 0 1 → bcm (up g 0 1 0) (g 0 1) 20 j = g 1 j := fun j hj => by
        unfold bcm
        rw [up_n (by decide), up_n (by decide)]
        unfold cpy
        rw [if_pos (by omega), up_n (by decide)]
        congr 1
        omega
      have br : ∀ a, a ≠ 0 → a ≠ 19 → a ≠ 20 → bcm (up g 0 1 0) (g 0 1) a = g a := fun a x0 x1 x2 => by
        unfold bcm
        rw [up_ne x1, up_ne x1, cpy_ne x2, up_ne x0]
      have b0 : bcm (up g 0 1 0) (g 0 1) 0 1 = 0 := by
        unfold bcm
        rw [up_n (by decide), up_n (by decide), cpy_ne (by decide), up_s]
      rw [b4] at c2 c3 c4
      rw [rc_congr (f := g 1) (g 0 1).toNat (fun i hi => b20 i (by omega))] at c4
      refine ⟨c4, ?_⟩
      have j0 : ∀ a, a ≠ 43 → a ≠ 57 → h2 a = h1 a := fun a x1 x2 => by rw [d2, up_ne x1, up_ne x1, cpy_ne x2, tpM_ne x1]
      have j43 : ∀ b, b ≠ 0 → b ≠ 16 → b ≠ 18 → b ≠ 21 → h2 43 b = g 43 b := fun b x0 x1 x2 x3 => by rw [d2, up_f x3, up_f x2, cpy_ne (by decide), tpM_f x0 x1, e 43 (by decide)]
      have j16 : h2 43 16 = 0 := by
        rw [d2, up_f (by decide), up_f (by decide), cpy_ne (by decide)]
        unfold tpM
        rw [up_s]
      have j18 : h2 43 18 = g 0 1 := by rw [d2, up_f (by decide), up_s]
      have j21 : h2 43 21 = -1 := by rw [d2, up_s]
      have j57 : ∀ j : Nat, (j : Int) < g 0 1 → h2 57 j = g 1 j := fun j hj => by
        rw [d2, up_n (by decide), up_n (by decide)]
        unfold cpy
        rw [if_pos (by omega), tpM_ne (by decide), e 56 (by decide), show 0 + (j - 0) = j by omega]
        exact (t4 j hj).1
      have lt : ∀ a, a < 43 → h2 a = h1 a := fun a ha => j0 a (by omega) (by omega)
      have k0 : h1 0 1 = 0 := by rw [f1 0 (by decide) (by decide) (by decide) (by decide)]; exact b0
      have k20 : h1 20 = bcm (up g 0 1 0) (g 0 1) 20 := f1 20 (by decide) (by decide) (by decide) (by decide)
      refine IV_of (L := [1, 6]) hI ?_ (fun _ => ?_) (fun z => absurd z (by decide)) (fun z => absurd z (by decide)) (fun z => absurd z (by decide)) (fun z => absurd z (by decide)) (fun _ => ⟨?_, ?_⟩) (fun z => absurd z (by decide)) (fun z => absurd z (by decide))
      · intro a b p q
        have x0 : a ≠ 0 := by
          rintro rfl
          have s0 : sid 0 b = if b = 1 then 1 else 0 := rfl
          rw [s0] at p q
          by_cases y : b = 1
          · rw [if_pos y] at q; exact q (by decide)
          · rw [if_neg y] at p; exact p rfl
        have x19 : a ≠ 19 := by
          rintro rfl
          have s0 : sid 19 b = if b = 4 ∨ b = 5 ∨ b = 6 then 6 else 0 := rfl
          rw [s0] at p q
          by_cases y : b = 4 ∨ b = 5 ∨ b = 6
          · rw [if_pos y] at q; exact q (by decide)
          · rw [if_neg y] at p; exact p rfl
        have x20 : a ≠ 20 := by rintro rfl; exact q (by show (6 : Nat) ∈ [1, 6]; decide)
        have x21 : a ≠ 21 := by rintro rfl; exact q (by show (6 : Nat) ∈ [1, 6]; decide)
        have x22 : a ≠ 22 := by rintro rfl; exact q (by show (6 : Nat) ∈ [1, 6]; decide)
        have x23 : a ≠ 23 := by rintro rfl; exact q (by show (6 : Nat) ∈ [1, 6]; decide)
        have x57 : a ≠ 57 := by rintro rfl; exact q (by show (6 : Nat) ∈ [1, 6]; decide)
        by_cases x43 : a = 43
        · subst x43
          refine j43 b ?_ ?_ ?_ ?_
          · rintro rfl; exact p rfl
          · rintro rfl; exact q (by decide)
          · rintro rfl; exact q (by decide)
          · rintro rfl; exact q (by decide)
        · rw [j0 a x43 x57, f1 a x19 x21 x22 x23, br a x0 x19 x20]
      · unfold ITape
        rw [lt 0 (by decide), k0, j16]
        exact ⟨by omega, by omega, rfl, fun j hj => by omega⟩
      · unfold CL0
        rw [lt 19 (by decide), lt 20 (by decide), lt 21 (by decide), lt 22 (by decide), lt 23 (by decide), f2 4 (by decide), b4, k20]
        refine ⟨t1, by omega, fun j hj => ?_, runs_congr c3 (fun _ _ => rfl), ?_, fun y => by omega⟩
        · rw [c2 j hj, b20 j hj]
          exact ⟨(t4 j hj).2.1, (t4 j hj).2.2, rfl⟩
        · rw [rc_congr (f := g 1) (g 0 1).toNat (fun i hi => b20 i (by omega))]
          exact c4
      · unfold CML
        rw [lt 19 (by decide), lt 20 (by decide), f2 4 (by decide), f2 6 (by decide), b4, b6, k20, j18, j21]
        exact ⟨rfl, rfl, fun j hj => by rw [j57 j hj, b20 j hj]⟩
theorem p_edits {g : HP} (hI : IV g) (k w : Int) : PR mHelp_edits mModel_edits [.inr (.inr 0), .inl k, .inl w] [.inr (.inr 43), .inl k, .inl w] g := by
  refine ⟨_, t_Help_edits g hI.ci k w, fun r h1 hq => ?_⟩
  have e : ∀ a, a ≠ 41 → a ≠ 42 → h1 a = g a := by
    rcases hq with ⟨_, _, rfl⟩ | ⟨_, n, _, _, _, a1, _⟩
    · exact fun _ _ _ => rfl
    · exact a1
  have hcm : CM g h1 := by
    have := hI.cm
    unfold CM CMW CMN CMR CMS CML at *
    rw [e 43 (by decide) (by decide), e 44 (by decide) (by decide), e 45 (by decide) (by decide), e 46 (by decide) (by decide), e 47 (by decide) (by decide), e 48 (by decide) (by decide), e 49 (by decide) (by decide), e 50 (by decide) (by decide), e 51 (by decide) (by decide), e 52 (by decide) (by decide), e 53 (by decide) (by decide), e 54 (by decide) (by decide), e 55 (by decide) (by decide), e 57 (by decide) (by decide)]
    exact this
  refine ⟨_, t_Model_edits g h1 hI.ci hcm k w, fun r' h2 hq' => ?_⟩
  rcases hq with ⟨c1, rfl, rfl⟩ | ⟨c1, n, n1, ⟨d, n2⟩, rfl, a1, a2, a3, a4⟩
  · rcases hq' with ⟨d1, rfl, d2⟩ | ⟨d1, _⟩
    · exact ⟨rfl, IV_0 hI (SF.ms d2)⟩
    · exact absurd d1 c1
  · rcases hq' with ⟨d1, _⟩ | ⟨d1, n', n1', ⟨d', n2'⟩, rfl, b1, b2', b3, b4⟩
    · exact absurd c1 d1
    · have en : n = n' := by
        have := (nnP_uni n2 n2').1
        omega
      subst en
      refine ⟨rfl, IV_of (L := [8]) hI ?_ (fun z => absurd z (by decide)) (fun z => absurd z (by decide)) (fun z => absurd z (by decide)) (fun z => absurd z (by decide)) (fun z => absurd z (by decide)) (fun z => absurd z (by decide)) (fun z => absurd z (by decide)) (fun _ => ?_)⟩
      · intro a b p q
        have x42 : a ≠ 42 := by rintro rfl; exact q (by show (8 : Nat) ∈ [8]; decide)
        have x76 : a ≠ 76 := by rintro rfl; exact q (by show (8 : Nat) ∈ [8]; decide)
        have x41 : a ≠ 41 := by
          rintro rfl
          have s0 : sid 41 b = if b = 3 ∨ b = 4 then 8 else 0 := rfl
          rw [s0] at p q
          by_cases y : b = 3 ∨ b = 4
          · rw [if_pos y] at q; exact q (by decide)
          · rw [if_neg y] at p; exact p rfl
        by_cases z : 43 ≤ a ∧ a < 77
        · rw [b1.2 a b (sid_ms p z.1 z.2) x76 (fun y => by
            obtain ⟨rfl, y⟩ := y
            rcases y with rfl | rfl
            · exact q (by decide)
            · exact q (by decide)), a1 a x41 x42]
        · rw [b1.1 a (by omega), a1 a x41 x42]
      · have k10 := hI.ci.2.2.2.2.2.2.2.1.2.2.1 k.toNat (by omega)
        have h80 := ty80 hI.ci.2.1 hI.ci.2.2.2.2 (k := k.toNat) (by omega)
        have hn := (nm_in hI.ci.2.1 n1).1
        have e41 : h2 41 = h1 41 := b1.1 41 (by decide)
        have e42 : h2 42 = h1 42 := b1.1 42 (by decide)
        unfold ICell
        rw [e41, e42, a2, a3, b2', b3]
        exact Or.inr ⟨by omega, h80, by omega, by omega, rfl, rfl, fun i j hi hj => by rw [b4 i j hi hj, a4 i j hi hj]⟩
theorem CM_ge {g h h' : HP} (e : ∀ a, 43 ≤ a → h' a = h a) (hm : CM g h) : CM g h' := by
  unfold CM CMW CMN CMR CMS CML at *
  rw [e 43 (by decide), e 44 (by decide), e 45 (by decide), e 46 (by decide), e 47 (by decide), e 48 (by decide), e 49 (by decide), e 50 (by decide), e 51 (by decide), e 52 (by decide), e 53 (by decide), e 54 (by decide), e 55 (by decide), e 57 (by decide)]
  exact hm
theorem CMg_ge {g h h' : HP} (e : ∀ a, 43 ≤ a → h' a = h a) (hm : CMg g h) : CMg g h' := by
  unfold CMg at *
  rw [e 43 (by decide), e 69 (by decide), e 70 (by decide), e 71 (by decide), e 72 (by decide)]
  exact hm
/-- the state once a proposal is taken by both -/
theorem acc_IV {g h2c hm h2m h2 : HP} {q : Nat} {w x : Int} (hI : IV g) (hu : u3 g q) (hw : 0 ≤ w ∧ w < g 10 4) (ha : accC g (mT g q) w h2c) (hc : ∀ a, a < 24 ∨ (36 ≤ a ∧ a < 43) ∨ 77 ≤ a → h2 a = up h2c 19 6 x a) (hmg : CMg g hm) (hms : ∀ a b, sid a b ≠ 0 → sid a b ∉ [6, 7] → 43 ≤ a → a < 77 → hm a b = g a b) (hb : acM g hm (mT g q) w h2m) (hd : ∀ a b, sid a b ≠ 0 → 43 ≤ a → a < 77 → ¬ (a = 43 ∧ b = 21) → h2 a b = h2m a b) (h21 : h2 43 21 = x) : IV h2 := by
  have hC := hI.ci
  have hL := hC.2.2.2.2
  have hk5 := (mT_in hu.1 hL.2.2.2.1.1).1
  have hty := ty_in hL hk5
  obtain ⟨n, h0c, h1c, f1, al, kf, ql, e36⟩ := acc_L ha
  have hCI := acL_CI hC hu f1.1 al x
  obtain ⟨c1, c2⟩ := acM_ne hb
  obtain ⟨n', f2, h1m, qm, m1, m2, m3, m4⟩ := hb
  have en := frst_uni f1 f2
  subst en
  obtain ⟨b1, b2', b3, b4, _⟩ := al
  have lt : ∀ a, a < 24 → h2 a = up h2c 19 6 x a := fun a ha => hc a (by omega)
  have lc := log_C hI.cl hty hw kf ql
  have lm := log_CM hI.cl hty kf ql hmg qm
  refine IV_of (L := [6, 7]) hI ?_ (fun z => absurd z (by decide)) (fun z => absurd z (by decide)) (fun z => absurd z (by decide)) (fun z => absurd z (by decide)) (fun z => absurd z (by decide)) (fun _ => ⟨(CI_lt lt hCI).2.2.2.2, ?_⟩) (fun _ => ⟨?_, ?_⟩) (fun z => absurd z (by decide))
  · intro a b p qn
    have pk := sid_kf p
    by_cases z : 43 ≤ a ∧ a < 77
    · have x57 : a ≠ 57 := by rintro rfl; exact qn (by show (6 : Nat) ∈ [6, 7]; decide)
      have x58 : a ≠ 58 := by rintro rfl; exact p rfl
      have x69 : a ≠ 69 := by rintro rfl; exact qn (by show (7 : Nat) ∈ [6, 7]; decide)
      have x70 : a ≠ 70 := by rintro rfl; exact qn (by show (7 : Nat) ∈ [6, 7]; decide)
      have x71 : a ≠ 71 := by rintro rfl; exact qn (by show (7 : Nat) ∈ [6, 7]; decide)
      have x72 : a ≠ 72 := by rintro rfl; exact qn (by show (7 : Nat) ∈ [6, 7]; decide)
      rw [hd a b p z.1 z.2 (by rintro ⟨rfl, rfl⟩; exact qn (by decide)), ← hms a b p qn z.1 z.2]
      by_cases x43 : a = 43
      · subst x43
        refine c2 b ?_ ?_
        · rintro rfl; exact qn (by decide)
        · rintro rfl; exact qn (by decide)
      · rw [c1 a x43 x57 x58 x69 x70 x71 x72]
    · have x19 : a ≠ 19 := by
        rintro rfl
        have s0 : sid 19 b = if b = 4 ∨ b = 5 ∨ b = 6 then 6 else 0 := rfl
        rw [s0] at p qn
        by_cases y : b = 4 ∨ b = 5 ∨ b = 6
        · rw [if_pos y] at qn; exact qn (by decide)
        · rw [if_neg y] at p; exact p rfl
      have x36 : a ≠ 36 := by
        rintro rfl
        have s0 : sid 36 b = if b = 4 then 7 else 0 := rfl
        rw [s0] at p qn
        by_cases y : b = 4
        · rw [if_pos y] at qn; exact qn (by decide)
        · rw [if_neg y] at p; exact p rfl
      have x20 : a ≠ 20 := by rintro rfl; exact qn (by show (6 : Nat) ∈ [6, 7]; decide)
      have x21 : a ≠ 21 := by rintro rfl; exact qn (by show (6 : Nat) ∈ [6, 7]; decide)
      have x22 : a ≠ 22 := by rintro rfl; exact qn (by show (6 : Nat) ∈ [6, 7]; decide)
      have x23 : a ≠ 23 := by rintro rfl; exact qn (by show (6 : Nat) ∈ [6, 7]; decide)
      have x37 : a ≠ 37 := by rintro rfl; exact qn (by show (7 : Nat) ∈ [6, 7]; decide)
      have x38 : a ≠ 38 := by rintro rfl; exact qn (by show (7 : Nat) ∈ [6, 7]; decide)
      have x39 : a ≠ 39 := by rintro rfl; exact qn (by show (7 : Nat) ∈ [6, 7]; decide)
      have x40 : a ≠ 40 := by rintro rfl; exact qn (by show (7 : Nat) ∈ [6, 7]; decide)
      rw [hc a (by omega), up_ne x19, b1 a (by omega)]
  · unfold CML
    rw [lt 19 (by decide), lt 20 (by decide), up_s, up_f (by decide), up_ne (by decide), b3, h21, hd 43 18 (by decide) (by decide) (by decide) (by decide), m3]
    refine ⟨rfl, rfl, fun j hj => ?_⟩
    rw [hd 57 j (by show (6 : Nat) ≠ 0; decide) (by decide) (by decide) (by omega), m4 j hj, (b4 j hj).1]
  · refine CLg_congr (g := h1c) (fun a ha => ?_) lc
    by_cases z : a = 10
    · subst z
      rw [lt 10 (by decide), up_ne (by decide), b1 10 (by decide), (qLog_ne ql).1 10 (by decide)]
      exact (kf 10 (by decide)).symm
    · rw [hc a (by omega), up_ne (by omega), e36 a (by omega)]
  · have hcl : CMg h2 h1m := CMg_l (g := h1c) (fun a a1 a2 => by rw [hc a (by omega), up_ne (by omega), e36 a (by omega)]) lm
    have r : ∀ a, (∀ b, sid a b = 7) → 69 ≤ a → a ≤ 72 → h2 a = h1m a := fun a s a1 a2 => funext fun b => by
      rw [hd a b (by rw [s b]; decide) (by omega) (by omega) (by omega), m1 a (by omega) (by omega) (by omega)]
    unfold CMg at *
    rw [r 69 (fun _ => rfl) (by decide) (by decide), r 70 (fun _ => rfl) (by decide) (by decide), r 71 (fun _ => rfl) (by decide) (by decide), r 72 (fun _ => rfl) (by decide) (by decide), hd 43 39 (by decide) (by decide) (by decide) (by decide), m2 39 (by decide)]
    exact hcl
theorem sureP_uni {g : HP} {q : Nat} {m : Int} {fw fd ff fw' fd' ff' : Nat → Int} (h0 : 0 < m) (e : ∀ i : Nat, (i : Int) < m → fw i = fw' i ∧ fd i = fd' i ∧ ff i = ff' i) : sureP g q m fw fd ff ↔ sureP g q m fw' fd' ff' := by
  obtain ⟨e1, e2, e3⟩ := e 0 (by omega)
  unfold sureP
  rw [e1, e2, e3]
  by_cases z : m = 1
  · simp only [z, true_or, true_and]
  · rw [(e 1 (by omega)).2.1]
theorem p_fix {g : HP} (hI : IV g) : PR mHelp_fix mModel_fix [.inr (.inr 0)] [.inr (.inr 43)] g := by
  have hC := hI.ci
  refine ⟨_, t_Help_fix g hC hI.cl, fun r h1 hq => ?_⟩
  have e : ∀ a, 43 ≤ a → h1 a = g a := by
    obtain ⟨v, c, p, x, _, ⟨_, _, k⟩ | ⟨_, q, m, fw, fd, ff, hu, _, ⟨_, _, k⟩ | ⟨_, _, _, k⟩ | ⟨_, _, _, h2c, ha, rfl⟩⟩⟩ := hq
    · exact fun a ha => k a (by omega)
    · exact fun a ha => k a (by omega)
    · exact fun a ha => k a (by omega)
    · obtain ⟨n, _, _, _, al, _, _, _⟩ := acc_L ha
      exact fun a ha => by rw [up_ne (by omega), al.1 a (by omega)]
  have hcm := CM_ge e hI.cm
  have hcg := CMg_ge e hI.cg
  refine ⟨_, t_Model_fix g h1 hC hI.cl hcm hcg, fun r' h2 hq' => ?_⟩
  obtain ⟨v, c, p, x, hv, hq⟩ := hq
  obtain ⟨v', c', p', x', hv', hq'⟩ := hq'
  obtain ⟨ev, _, _⟩ := verdR_uni hv hv'
  subst ev
  rcases hq with ⟨c1, rfl, kf⟩ | ⟨c1, q, m, fw, fd, ff, hu, hp, hq⟩
  · rcases hq' with ⟨d1, rfl, ms⟩ | ⟨d1, _⟩
    · exact ⟨rfl, IV_0 (IV_0 hI (SF.kf kf)) (SF.ms ms)⟩
    · exact absurd d1 c1
  · rcases hq' with ⟨d1, _⟩ | ⟨d1, q', m', fw', fd', ff', hu', hp', hq'⟩
    · exact absurd c1 d1
    · have eq := u3_uni hu hu'
      subst eq
      obtain ⟨em, ea⟩ := qPr_uni hp hp'
      subst em
      rcases hq with ⟨k1, rfl, kf⟩ | ⟨k1, k2, rfl, kf⟩ | ⟨k1, k2, rfl, h2c, ha, hh1⟩
      · rcases hq' with ⟨l1, rfl, ms⟩ | ⟨l1, _⟩ | ⟨l1, _⟩
        · exact ⟨rfl, IV_0 (IV_0 hI (SF.kf kf)) (SF.ms ms)⟩
        · omega
        · omega
      · rcases hq' with ⟨l1, _⟩ | ⟨l1, l2, rfl, ms⟩ | ⟨l1, l2, _⟩
        · omega
        · exact ⟨rfl, IV_0 (IV_0 hI (SF.kf kf)) (SF.ms ms)⟩
        · exact absurd ((sureP_uni k1 ea).mpr l2) k2
      · rcases hq' with ⟨l1, _⟩ | ⟨l1, l2, _⟩ | ⟨l1, l2, rfl, h0, ms, hb⟩
        · omega
        · exact absurd ((sureP_uni k1 ea).mp k2) l2
        · refine ⟨rfl, ?_⟩
          have ew := (ea 0 (by omega)).1
          rw [← ew] at hb
          have hw := qPr_w hp hC.1.1 (i := 0) (by omega)
          obtain ⟨c1', c2'⟩ := acM_ne hb
          have x21 : h2 43 21 = mT g q := by rw [c2' 21 (by decide) (by decide), up_s]
          refine acc_IV hI hu hw ha (x := mT g q) (fun a haa => ?_) ?_ (fun a b s1 s2 s3 s4 => ?_) hb (fun _ _ _ _ _ _ => rfl) x21
          · rw [c1' a (by omega) (by omega) (by omega) (by omega) (by omega) (by omega) (by omega), up_ne (by omega), ms.1 a (by omega), hh1]
          · have := hcg.ms ms
            exact CMg_l (g := up g 19 6 0) (fun a a1 a2 => (up_ne (by omega)).symm) (CMg_note this)
          · rw [up_off (by rintro ⟨rfl, rfl⟩; exact s2 (by decide)), ms.2 a b (sid_ms s1 s3 s4), e a s3]
theorem p_choose {g : HP} (hI : IV g) (i : Int) : PR mHelp_choose mModel_choose [.inr (.inr 0), .inl i] [.inr (.inr 43), .inl i] g := by
  have hC := hI.ci
  refine ⟨_, t_Help_choose g hC hI.cl i, fun r h1 hq => ?_⟩
  obtain ⟨v, c, p, x, hv, m, fw, fd, ff, hp, hq⟩ := hq
  rcases hq with ⟨c1, rfl, kf⟩ | ⟨c1, q, hu, h2c, ha, kf, lk⟩
  · refine ⟨_, t_Model_choose g g h1 hC hI.cl (hI.cm.kf kf) (hI.cg.kf kf) i (fun v' c' p' x' m' fw' fd' ff' q' y1 y2 y3 y4 => ?_), fun r' h2 hq' => ?_⟩
    · obtain ⟨ev, _, _⟩ := verdR_uni hv y1
      subst ev
      have em := (qPr_uni hp y2).1
      omega
    · obtain ⟨v', c', p', x', hv', m', fw', fd', ff', hp', hq'⟩ := hq'
      obtain ⟨ev, _, _⟩ := verdR_uni hv hv'
      subst ev
      have em := (qPr_uni hp hp').1
      rcases hq' with ⟨d1, rfl, ms⟩ | ⟨d1, _⟩
      · exact ⟨rfl, IV_0 (IV_0 hI (SF.kf kf)) (SF.ms ms)⟩
      · omega
  · obtain ⟨n, _, _, _, al, _, _, _⟩ := acc_L ha
    have e : ∀ a, 43 ≤ a → h1 a = g a := fun a haa => by rw [kf a (by omega), up_ne (by omega), al.1 a (by omega)]
    have hcm := CM_ge e hI.cm
    have hcg := CMg_ge e hI.cg
    refine ⟨_, t_Model_choose g (up h2c 19 6 (-1)) h1 hC hI.cl hcm hcg i (fun v' c' p' x' m' fw' fd' ff' q' y1 y2 y3 y4 => ?_), fun r' h2 hq' => ?_⟩
    · obtain ⟨ev, _, _⟩ := verdR_uni hv y1
      subst ev
      obtain ⟨em, ea⟩ := qPr_uni hp y2
      have eq := u3_uni hu y4
      subst eq
      rw [← (ea i.toNat (by omega)).1]
      exact ⟨h2c, ha, rfl⟩
    · obtain ⟨v', c', p', x', hv', m', fw', fd', ff', hp', hq'⟩ := hq'
      obtain ⟨ev, _, _⟩ := verdR_uni hv hv'
      subst ev
      obtain ⟨em, ea⟩ := qPr_uni hp hp'
      rcases hq' with ⟨d1, _⟩ | ⟨d1, q', hu', h0, h2m, ms, hb, ms2, lk'⟩
      · omega
      · have eq := u3_uni hu hu'
        subst eq
        rw [← (ea i.toNat (by omega)).1] at hb
        obtain ⟨_, _, _, a1⟩ := lk
        obtain ⟨_, _, _, a2⟩ := lk'
        refine ⟨(verdR_uni a1 a2).1, ?_⟩
        have hw := qPr_w hp hC.1.1 (i := i.toNat) (by omega)
        obtain ⟨c1', c2'⟩ := acM_ne hb
        refine acc_IV hI hu hw ha (x := -1) (fun a haa => ?_) (hcg.ms ms) (fun a b s1 s2 s3 s4 => ?_) hb (fun a b s1 s3 s4 s5 => ?_) ?_
        · rw [ms2.1 a (by omega), up_ne (by omega), c1' a (by omega) (by omega) (by omega) (by omega) (by omega) (by omega) (by omega), ms.1 a (by omega), kf a (by omega)]
        · rw [ms.2 a b (sid_ms s1 s3 s4), e a s3]
        · rw [ms2.2 a b (sid_ms s1 s3 s4), up_off s5]
        · rw [ms2.2 43 21 rfl, up_s]
