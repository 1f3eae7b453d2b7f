/-! line, split, part: the typed words -/
def splP (h : HP) (m : Int) (f : Nat → Int) (i tz run : Int) : Prop := IRuns h i tz f (h 22) (h 23) ∧ tz = rc f i.toNat ∧ 0 ≤ run ∧ run ≤ i ∧ (0 < run → 1 ≤ tz ∧ h 22 (tz - 1).toNat + h 23 (tz - 1).toNat = i ∧ h 23 (tz - 1).toNat = run ∧ ¬ lOf (f (i.toNat - 1)) = -1) ∧ (run = 0 → i = 0 ∨ lOf (f (i.toNat - 1)) = -1)
theorem runs_skip {g g' : HP} {i tz : Int} {f st ln : Nat → Int} (h : IRuns g i tz f st ln) (h0 : 0 ≤ i) (hn : lOf (f i.toNat) = -1) : IRuns g' (i + 1) tz f st ln := by
  obtain ⟨h1, h2, h3, h4, h5⟩ := h
  refine ⟨h1, h2, fun k hk => ?_, fun j hj hl => ?_, h5⟩
  · obtain ⟨a1, a2, a3, a4⟩ := h3 k hk
    exact ⟨a1, a2, by omega, a4⟩
  · by_cases e : (j : Int) = i
    · exfalso
      rw [show j = i.toNat by omega] at hl
      exact hl hn
    · exact h4 j (by omega) hl
theorem runs_new {g g' : HP} {i tz : Int} {f st ln st' ln' : Nat → Int} (h : IRuns g i tz f st ln) (h0 : 0 ≤ i) (hn : ¬ lOf (f i.toNat) = -1) (hp : i = 0 ∨ lOf (f (i.toNat - 1)) = -1) (h10 : tz < 10) (e1 : ∀ k : Nat, (k : Int) < tz → st' k = st k ∧ ln' k = ln k) (e2 : st' tz.toNat = i ∧ ln' tz.toNat = 1) : IRuns g' (i + 1) (tz + 1) f st' ln' := by
  have h' := h
  obtain ⟨h1, h2, h3, h4, h5⟩ := h
  refine ⟨by omega, by omega, fun k hk => ?_, fun j hj hl => ?_, fun k hk => ?_⟩
  · by_cases e : (k : Int) = tz
    · rw [show k = tz.toNat by omega, e2.1, e2.2]
      refine ⟨h0, by omega, by omega, fun j q1 q2 => ?_⟩
      rw [show j = i.toNat by omega]
      exact hn
    · obtain ⟨a1, a2, a3, a4⟩ := h3 k (by omega)
      rw [(e1 k (by omega)).1, (e1 k (by omega)).2]
      exact ⟨a1, a2, by omega, a4⟩
  · by_cases e : (j : Int) = i
    · exact ⟨tz.toNat, by omega, by rw [e2.1]; omega, by rw [e2.1, e2.2]; omega⟩
    · obtain ⟨k, q1, q2, q3⟩ := h4 j (by omega) hl
      exact ⟨k, by omega, by rw [(e1 k q1).1]; exact q2, by rw [(e1 k q1).1, (e1 k q1).2]; exact q3⟩
  · by_cases e : (k : Int) + 1 = tz
    · rw [show k + 1 = tz.toNat by omega, e2.1, (e1 k (by omega)).1, (e1 k (by omega)).2]
      obtain ⟨a1, a2, a3, a4⟩ := h3 k (by omega)
      rcases Int.lt_or_le (st k + ln k) i with q | q
      · exact q
      · exfalso
        have := a4 (i.toNat - 1) (by omega) (by omega)
        rcases hp with z | z
        · omega
        · exact this z
    · rw [(e1 k (by omega)).1, (e1 k (by omega)).2, (e1 (k + 1) (by push_cast; omega)).1]
      exact h5 k (by omega)
theorem runs_grow {g g' : HP} {i tz run : Int} {f st ln ln' : Nat → Int} (h : IRuns g i tz f st ln) (h0 : 0 ≤ i) (hn : ¬ lOf (f i.toNat) = -1) (hz : 1 ≤ tz) (he : st (tz - 1).toNat + ln (tz - 1).toNat = i) (e1 : ∀ k : Nat, (k : Int) < tz - 1 → ln' k = ln k) (e2 : ln' (tz - 1).toNat = ln (tz - 1).toNat + 1) : IRuns g' (i + 1) tz f st ln' := by
  obtain ⟨h1, h2, h3, h4, h5⟩ := h
  refine ⟨h1, h2, fun k hk => ?_, fun j hj hl => ?_, fun k hk => ?_⟩
  · obtain ⟨a1, a2, a3, a4⟩ := h3 k hk
    by_cases e : (k : Int) = tz - 1
    · have ek : k = (tz - 1).toNat := by omega
      subst ek
      rw [e2]
      refine ⟨a1, by omega, by omega, fun j q1 q2 => ?_⟩
      by_cases e3 : (j : Int) = i
      · rw [show j = i.toNat by omega]; exact hn
      · exact a4 j q1 (by omega)
    · rw [e1 k (by omega)]
      exact ⟨a1, a2, by omega, a4⟩
  · by_cases e : (j : Int) = i
    · exact ⟨(tz - 1).toNat, by omega, by have := (h3 (tz - 1).toNat (by omega)).2.1; omega, by rw [e2]; omega⟩
    · obtain ⟨k, q1, q2, q3⟩ := h4 j (by omega) hl
      refine ⟨k, q1, q2, ?_⟩
      by_cases e3 : (k : Int) = tz - 1
      · rw [show k = (tz - 1).toNat by omega] at q3 ⊢
        rw [e2]; omega
      · rw [e1 k (by omega)]; exact q3
  · rw [e1 k (by omega)]
    exact h5 k hk
