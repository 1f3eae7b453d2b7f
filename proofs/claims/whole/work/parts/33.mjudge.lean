theorem Tr.mono {mi : MI} {mc ms : Nat} {as : List AV} {sh : SH} {h : HP} {P P' : Option AV → SH → HP → Prop} (hp : ∀ v sh h, P v sh h → P' v sh h) (k : Tr mi mc ms as sh h P) : Tr mi mc ms as sh h P' := by
  intro l D cs ad rl ro sz a0 a1 a2 a3 a4 p e b1 b2 b3 s m args below b4 b5 b6 b7
  obtain ⟨n, o, c1, c2, c3, ⟨⟨v, sh', h', ad', d1, d2, d3⟩, d4⟩, c5⟩ := k l D cs ad rl ro sz a0 a1 a2 a3 a4 p e b1 b2 b3 s m args below b4 b5 b6 b7
  exact ⟨n, o, c1, c2, c3, ⟨⟨v, sh', h', ad', d1, hp _ _ _ d2, d3⟩, d4⟩, c5⟩
theorem trV_mono {q : MI} {as : List AV} {sh : SH} {h : HP} {Q Q' : HP → Prop} (hQ : ∀ h', Q h' → Q' h') (k : trV q as sh h Q) : trV q as sh h Q' := Tr.mono (fun v sh' h' hh => ⟨hh.1, by
  obtain ⟨rfl, hq⟩ := rtV_ex hh.2
  exact hQ h' hq⟩) k
theorem trI_mono {q : MI} {as : List AV} {sh : SH} {h : HP} {Q Q' : Int → HP → Prop} (hQ : ∀ r h', Q r h' → Q' r h') (k : trI q as sh h Q) : trI q as sh h Q' := Tr.mono (fun v sh' h' hh => ⟨hh.1, by
  obtain ⟨r, rfl, hq⟩ := rtI_ex hh.2
  exact hQ r h' hq⟩) k
/-! the reference's typed words and judge, against a coupled heap g -/
theorem mt_M {g h : HP} (hn : CN g) (hl : CL0 g) (hmn : CMN g h) (hml : CML g h) {k n : Nat} (hk : (k : Int) < g 19 5) (hnn : (n : Int) < g 6 3) : mtM h (fun j => sm (h 57 ((g 22 k).toNat + j))) (g 23 k) n ↔ mt g (tw g k) (g 23 k) n := by
  obtain ⟨z1, z2, z3⟩ := hmn.2 n hnn
  obtain ⟨r1, r2, r3, r4⟩ := hl.2.2.2.1.2.2.1 k hk
  have key : ∀ i : Nat, (i : Int) < g 23 k → sm (h 57 ((g 22 k).toNat + i)) = tw g k i + 97 := fun i hi => by
    have e := hl.2.2.1 ((g 22 k).toNat + i) (by omega)
    rw [hml.2.2 _ (by omega), lOf_sm (r4 _ (by omega) (by omega))]
    unfold tw
    rw [e.2.2]
  unfold mtM mt
  rw [z1]
  constructor
  · rintro ⟨h1, h2⟩
    refine ⟨h1, fun i hi => ?_⟩
    have a := h2 i hi
    have b := z3 i (by rw [h1]; exact hi)
    simp only [key i hi] at a
    omega
  · rintro ⟨h1, h2⟩
    refine ⟨h1, fun i hi => ?_⟩
    have a := h2 i hi
    have b := z3 i (by rw [h1]; exact hi)
    simp only [key i hi]
    omega
theorem fnd_wd {g h : HP} (hn : CN g) (hl : CL0 g) (hmn : CMN g h) (hml : CML g h) {k : Nat} (hk : (k : Int) < g 19 5) {x : Int} (hf : fndM h (fun j => sm (h 57 ((g 22 k).toNat + j))) (g 23 k) (h 43 6) x) : x = wd g k := by
  unfold fndM at hf
  rw [hmn.1] at hf
  rcases hf with ⟨rfl, hno⟩ | ⟨n, h1, rfl, h2⟩
  · exact (wd_none (fun n h1 h2 => hno n h1 ((mt_M hn hl hmn hml hk h1).mpr h2))).symm
  · rw [(hmn.2 n h1).2.1]
    exact (wd_some hn h1 ((mt_M hn hl hmn hml hk h1).mp h2)).symm
def qTyp (g h : HP) : Prop := h 43 22 = g 19 5 ∧ ∀ k : Nat, (k : Int) < g 19 5 → h 59 k = g 22 k ∧ h 60 k = g 23 k ∧ h 61 k = wd g k
theorem MS.prF {h h' : HP} (hp : prF h h') : MS h h' := by
  refine ⟨fun k hk => hp.1 k (by omega) (by omega) (by omega) (by omega), fun k j hj => ?_⟩
  by_cases e : k = 43
  · subst e
    refine hp.2 j (fun z => ?_)
    subst z
    cases hj
  · rw [hp.1 k e (by rintro rfl; cases hj) (by rintro rfl; cases hj) (by rintro rfl; cases hj)]
theorem rc_eqI {g h : HP} (hl : CL0 g) (hml : CML g h) : rc (h 57) (h 43 18).toNat = g 19 5 := by
  rw [hml.1, hl.2.2.2.2.1]
  exact rc_congr _ (fun i hi => hml.2.2 i (by omega))
set_option maxRecDepth 100000 in
set_option maxHeartbeats 4000000 in
theorem t_Model_partG (g h : HP) (hC : CI g) (hm : CM g h) : trV mModel_part [.inr (.inr 43)] SH0 h (fun h' => prF h h' ∧ qTyp g h') := by
  obtain ⟨hW, hN, hR, hS, hL⟩ := hC
  obtain ⟨mW', mN', mR, mS', mL'⟩ := hm
  have := t_Model_part h (by rw [mL'.1]; have := hL.1; have := hL.2.1; omega) (by rw [rc_eqI hL mL']; exact hL.2.2.2.1.2.1) (by rw [mN'.1]; exact ⟨hN.1, hN.2.1⟩) (by rw [mN'.1]; intro k hk; rw [(mN'.2 k hk).1]; exact (hN.2.2.1 k hk).2.1)
  refine trV_mono ?_ this
  rintro h' ⟨q1, q2, q3⟩
  rw [mL'.1] at q2
  have u := runs_unique hL.2.2.2.1 (runs_congr (g' := h') (b' := g 20) q2 (fun i hi => (mL'.2.2 i hi).symm))
  refine ⟨q1, u.1, fun k hk => ⟨(u.2 k hk).1, (u.2 k hk).2, ?_⟩⟩
  have := q3 k (by rw [u.1]; exact hk)
  rw [(u.2 k hk).1, (u.2 k hk).2] at this
  exact fnd_wd hN hL mN' mL' hk this
