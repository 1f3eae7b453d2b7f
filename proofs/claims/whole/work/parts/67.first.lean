/-! the first state keeps what holds between two calls -/
def setF (j : Nat) : Int := match j with | 0 => 2 | 1 => 2 | 2 => 3 | 3 => 2 | 4 => 2 | 5 => 4 | 6 => 0 | 7 => 1 | 8 => 3 | _ => 0
theorem setF_ok : ∀ j : Nat, j < 9 → setLo j ≤ setF j ∧ setF j ≤ setHi j := by decide
def EH (h : HP) : HP := (up (up (up (up (up (up (up (up (up (up (up (up (up (up (up (up (up (up (up (up (up (up (cpy (up h 0 1 0) 1001 4 0 0 9) 6 3 0) 10 4 0) 15 3 0) 19 4 0) 19 5 0) 19 6 (-1)) 24 6 0) 24 7 1) 24 8 (-1)) 24 9 (-1)) 24 10 (-1)) 28 3 (-1)) 28 4 (-1)) 28 5 0) 27 5 0) 33 3 (-1)) 33 4 0) 33 5 0) 36 4 0) 41 3 (-1)) 41 4 (-1)) 41 5 0)
def EM (h : HP) : HP := (up (up (up (up (up (up (up (up (up (up (up h 43 21 (-1)) 43 52 (-1)) 54 0 2) 54 1 2) 54 2 3) 54 3 2) 54 4 2) 54 5 4) 54 6 0) 54 7 1) 54 8 3)
theorem iv0 {g : HP} (z1 : g 0 1 = 0) (z2 : g 43 16 = 0) (z3 : g 10 4 = 0) (z4 : g 43 1 = 0) (z5 : g 6 3 = 0) (z6 : g 43 6 = 0) (z7 : g 15 3 = 0) (z8 : g 43 10 = 0) (z9 : g 19 4 = 0) (z10 : g 19 5 = 0) (z11 : g 19 6 = -1) (z12 : g 43 18 = 0) (z13 : g 43 21 = -1) (z14 : g 36 4 = 0) (z15 : g 43 39 = 0) (z16 : g 41 3 = -1) (z17 : g 41 4 = -1) (z18 : g 43 52 = -1)
    (r : ∀ a, a ∈ [5, 12, 13, 14, 17, 45, 46, 47, 53, 55] → ∀ j, g a j = 0) (s1 : ∀ j : Nat, j < 9 → g 4 j = setF j) (s2 : ∀ j : Nat, j < 9 → g 54 j = setF j) (s3 : ∀ j : Nat, j < 9 → g 1002 j = setLo j ∧ g 1003 j = setHi j) : IV g := by
  refine ⟨⟨by omega, by omega, by omega, fun j hj => absurd hj (by omega)⟩, ⟨⟨by omega, by omega, fun j hj => absurd hj (by omega), fun j hj => ⟨Or.inl (r 13 (by decide) j), Or.inl (r 14 (by decide) j)⟩⟩, ⟨by omega, by omega, by omega, fun j hj => absurd hj (by omega), fun j hj => ⟨by rw [r 47 (by decide), r 12 (by decide)], by rw [r 46 (by decide), r 14 (by decide)], Or.inl (r 14 (by decide) j), Or.inl (r 45 (by decide) j), Or.inl (r 13 (by decide) j), fun _ => r 45 (by decide) j⟩⟩, ⟨by omega, fun j hj => absurd hj (by omega)⟩⟩, ⟨⟨by omega, by omega, fun j hj => absurd hj (by omega), fun k k' hk => absurd hk (by omega), fun w h1 h2 => absurd h2 (by omega)⟩, ⟨by omega, fun j hj => absurd hj (by omega)⟩⟩, ⟨⟨by omega, by omega, fun j hj => absurd hj (by omega), fun k hk => ⟨by rw [r 17 (by decide)]; decide, by rw [r 17 (by decide)]; decide⟩⟩, ⟨by omega, fun j hj => absurd hj (by omega), fun k hk => by rw [r 53 (by decide), r 17 (by decide)]⟩, fun k _ _ => r 17 (by decide) k⟩, ⟨⟨fun j hj => by rw [s1 j hj]; exact setF_ok j hj, fun j hj => Or.inl (r 5 (by decide) j)⟩, ⟨fun j hj => by rw [s1 j hj, s2 j hj], fun j hj => by rw [r 55 (by decide), r 5 (by decide)]⟩, s3⟩, ⟨⟨by omega, by omega, fun j hj => absurd hj (by omega), ⟨by omega, by omega, fun j hj => absurd hj (by omega), fun j hj => absurd hj (by omega), fun j hj => absurd hj (by omega)⟩, ?_, fun hh => absurd hh (by omega)⟩, ⟨by omega, by omega, fun j hj => absurd hj (by omega)⟩⟩, ⟨⟨by omega, by omega, fun j hj => absurd hj (by omega)⟩, ⟨by omega, fun j hj => absurd hj (by omega)⟩⟩, Or.inl ⟨z16, z17, z18⟩⟩
  rw [z9, z10]
  rfl
theorem EH_hi {h : HP} {k : Nat} (hk : 1000 ≤ k) : EH h k = h k := by
  unfold EH
  rw [up_ne (by omega), up_ne (by omega), up_ne (by omega), up_ne (by omega), up_ne (by omega), up_ne (by omega), up_ne (by omega), up_ne (by omega), up_ne (by omega), up_ne (by omega), up_ne (by omega), up_ne (by omega), up_ne (by omega), up_ne (by omega), up_ne (by omega), up_ne (by omega), up_ne (by omega), up_ne (by omega), up_ne (by omega), up_ne (by omega), up_ne (by omega), up_ne (by omega), cpy_ne (by omega), up_ne (by omega)]
theorem EM_hi {h : HP} {k : Nat} (hk : 1000 ≤ k) : EM h k = h k := by
  unfold EM
  rw [up_ne (by omega), up_ne (by omega), up_ne (by omega), up_ne (by omega), up_ne (by omega), up_ne (by omega), up_ne (by omega), up_ne (by omega), up_ne (by omega), up_ne (by omega), up_ne (by omega)]
theorem EM_lo {h : HP} {k : Nat} (hk : k ≠ 43) (hk' : k ≠ 54) : EM h k = h k := by
  unfold EM
  rw [up_ne (by omega), up_ne (by omega), up_ne (by omega), up_ne (by omega), up_ne (by omega), up_ne (by omega), up_ne (by omega), up_ne (by omega), up_ne (by omega), up_ne (by omega), up_ne (by omega)]
theorem iv_first {h : HP} (hz : Zr 0 h) (h1 : ∀ j : Nat, j < 9 → h 1001 j = setF j) (h2 : ∀ j : Nat, j < 9 → h 1002 j = setLo j ∧ h 1003 j = setHi j) : IV (EM (EH h)) := by
  have z : ∀ k j, k < 1000 → h k j = 0 := fun k j hk => hz k (by omega) hk j
  refine iv0 (by simp [EM, EH, up, cpy, z]) (by simp [EM, EH, up, cpy, z]) (by simp [EM, EH, up, cpy, z]) (by simp [EM, EH, up, cpy, z]) (by simp [EM, EH, up, cpy, z]) (by simp [EM, EH, up, cpy, z]) (by simp [EM, EH, up, cpy, z]) (by simp [EM, EH, up, cpy, z]) (by simp [EM, EH, up, cpy, z]) (by simp [EM, EH, up, cpy, z]) (by simp [EM, EH, up, cpy, z]) (by simp [EM, EH, up, cpy, z]) (by simp [EM, EH, up, cpy, z]) (by simp [EM, EH, up, cpy, z]) (by simp [EM, EH, up, cpy, z]) (by simp [EM, EH, up, cpy, z]) (by simp [EM, EH, up, cpy, z]) (by simp [EM, EH, up, cpy, z]) ?_ ?_ ?_ ?_
  · intro a ha j
    simp only [List.mem_cons, List.mem_nil_iff, or_false] at ha
    rcases ha with rfl | rfl | rfl | rfl | rfl | rfl | rfl | rfl | rfl | rfl <;> simp [EM, EH, up, cpy, z]
  · intro j hj
    rw [EM_lo (by decide) (by decide)]
    rw [← h1 j hj]
    simp [EH, up, cpy, hj]
  · intro j hj
    have : j = 0 ∨ j = 1 ∨ j = 2 ∨ j = 3 ∨ j = 4 ∨ j = 5 ∨ j = 6 ∨ j = 7 ∨ j = 8 := by omega
    rcases this with rfl | rfl | rfl | rfl | rfl | rfl | rfl | rfl | rfl <;> simp [EM, up, setF]
  · intro j hj
    rw [EM_hi (by decide), EH_hi (by decide), EM_hi (by decide), EH_hi (by decide)]
    exact h2 j hj
