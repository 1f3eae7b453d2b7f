/-! the law's case of cell -/
def outR (h : HP) (a b : Int) : Prop := a < 0 ∨ h 41 3 < a ∨ b < 0 ∨ h 41 4 < b
def tlP (h : HP) (a b : Int) : Option AV → SH → HP → Prop := fun v sh' h' => sh' = SH0 ∧ ((¬ outR h a b ∧ v = some (.inl 0) ∧ h' = up h 77 0 (h 42 (13 * a.toNat + b.toNat))) ∨ (outR h a b ∧ v = some (.inl 1) ∧ h' = h))
theorem tl_cell {h : HP} (a b : Int) (c1 : h 41 3 ≤ 80) (c2 : h 41 4 ≤ 12) : TrL [.inr (.inr 0), .inl a, .inl b, .inr (.inr 77)] h (tlP h a b) := by
  by_cases hr : outR h a b
  · refine TrL.of (Nat.le_of_ble_eq_true rfl) ?_
    intro p l e R s m args below meth c D cs ad0 n0 rl ro A Q cx he htab H locs ad ls st
    refine (?_ : Wk mLawX p l e R s m args below meth c D cs ad0 n0 ro A H locs ad ls (entP [.inr (.inr 0), .inl a, .inl b, .inr (.inr 77)] 5) SH0 h 0 0 Q 0 []) st
    refine wk_al cx (i := 3) (x := 77) rfl dL_cell_0 ?_
    refine wk_ic cx ⟨by decide, by decide⟩ dL_cell_1 ?_
    refine wk_al cx (i := 0) (x := 0) rfl dL_cell_2 ?_
    refine wk_il cx (i := 1) (x := a) rfl dL_cell_3 ?_
    refine wk_il cx (i := 2) (x := b) rfl dL_cell_4 ?_
    intro st
    refine th_call cx he.1 htab rfl rfl rfl hr st (Nat.le_of_ble_eq_true rfl) ?_
    intro H1 q st1
    refine lv_astore (i := 4) cx.1 cx.2.1 dL_cell_13 st1.2.2.1.has (by decide) rfl (fun ls' hl' => ?_)
    have tail : Wt mLawX 1 6 1 6 15 [] [] SH0 h (tlP h a b) := wt_iconst ⟨by decide, by decide⟩ dL_cell_15 (wt_ireturn (Or.inl rfl) dL_cell_16 ⟨rfl, Or.inr ⟨hr, rfl, rfl⟩⟩)
    obtain ⟨b1, b2, b3, b4, b5, b6⟩ := st1
    exact tail p l e R s m args below meth c D cs ad0 n0 rl ro A Q cx he H1 locs ad ls' ⟨b1, b2, ⟨hl'.1, hl'.2.1, fun i v hi => by simp at hi⟩, fun i v hi => by simp at hi, b5, b6⟩ (Nat.le_refl _) (Nat.le_refl _)
  · have w : Wt mLawX 1 6 0 0 0 (entP [.inr (.inr 0), .inl a, .inl b, .inr (.inr 77)] 5) [] SH0 h (tlP h a b) := by
      refine Wt.okh fun ok => ?_
      have hr' : ¬ (a < 0 ∨ h 41 3 < a ∨ b < 0 ∨ h 41 4 < b) := hr
      refine wt_aload_n (i := 3) (x := 77) rfl dL_cell_0 ?_
      refine wt_iconst ⟨by decide, by decide⟩ dL_cell_1 ?_
      refine wt_aload_n (i := 0) (x := 0) rfl dL_cell_2 ?_
      refine wt_iload_n (i := 1) (x := a) rfl dL_cell_3 ?_
      refine wt_iload_n (i := 2) (x := b) rfl dL_cell_4 ?_
      obtain ⟨a1, a2, a3, a4, a5, a6, a7, a8, a9, a10⟩ := callAt_ok ca_12_7
      refine wt_callV (mc' := 0) (ms' := 0) (k := 0) (as := [.inl a, .inl b]) (S := [.inl 0, .inr (.inr 77)]) (rs := [some (some 1), none, some (some 2), some (some 3), some (some 6), some (some 10), some (some 15), some (some 19), some (some 24), some (some 27), some (some 33), some (some 36), some (some 41)]) ⟨a8 (by decide), a1, a2, a3, a4, a5, a6⟩ (a9 rfl).1 (a9 rfl).2 rfl (by decide) (by decide) (by decide) (by decide) (by decide) (t_Help_cell h a b (by omega) (by omega) c1 c2) dL_cell_5 ?_
      rintro v sh' h' ⟨rfl, hq⟩
      obtain ⟨r, rfl, rfl, rfl⟩ := rtI_ex hq
      refine wt_i2l dL_cell_8 ?_
      refine wt_lastore (k := 77) (n := 1) (x := 0) rfl (ok _ _) (by decide) (by decide) dL_cell_9 ?_
      refine wt_goto (tgt := 17) (by decide) dL_cell_10 ?_
      refine wt_iconst ⟨by decide, by decide⟩ dL_cell_17 ?_
      exact wt_ireturn (Or.inl rfl) dL_cell_18 ⟨rfl, Or.inl ⟨hr, rfl, rfl⟩⟩
    refine TrL.of (Nat.le_of_ble_eq_true rfl) ?_
    intro p l e R s m args below meth c D cs ad0 n0 rl ro A Q cx he htab H locs ad ls st
    exact w p l e R s m args below meth c D cs ad0 n0 rl ro A Q cx he H locs ad ls st (Nat.zero_le _) (Nat.zero_le _)
theorem lc_argL {mc ms k0 s0 pc : Nat} {h : HP} {P : Option AV → SH → HP → Prop} {S : List AV} {L : List (Option AV)} {i c : Int} (g0 : L[0]? = some (some (.inr (.inr 1000)))) (g4 : L[4]? = some (some (.inl i))) (d0 : decode cL_law pc = .ok (.aload_n 0, 1)) (d1 : decode cL_law (pc + 1) = .ok (.iload 4, 2)) (d2 : decode cL_law (pc + 3) = .ok (.iconst c, 1)) (d3 : decode cL_law (pc + 4) = .ok (.iadd, 1)) (d4 : decode cL_law (pc + 5) = .ok (.iaload, 1)) (hi : 0 ≤ i) (hc0 : 0 ≤ c) (hc : c ≤ 3) (hl : i + 4 ≤ h 1004 0) (hL : h 1004 0 ≤ 2048)
    (kk : Wt mLaw_law mc ms k0 s0 (pc + 6) L (.inl (h 1000 (i + c).toNat) :: S) SH0 h P) : Wt mLaw_law mc ms k0 s0 pc L S SH0 h P := by
  refine wt_aload_n (i := 0) (x := 1000) g0 d0 ?_
  refine wt_iload (x := i) g4 d1 ?_
  refine wt_iconst ⟨by omega, by omega⟩ d2 ?_
  refine wt_iadd d3 ?_
  rw [wr_id (by omega) (by omega)]
  exact wt_ialoadX (by omega) (by omega) d4 kk
theorem lc_cell {P : Option AV → SH → HP → Prop} : LCell P := by
  intro h i k0 s0 hI hi hl hL hk hs nx
  have hC := hI.2.2.2.2.2.2.2
  have c1 : h 41 3 ≤ 80 := by rcases hC with h | h <;> omega
  have c2 : h 41 4 ≤ 12 := by rcases hC with h | h <;> omega
  obtain ⟨a, ea⟩ : ∃ a, a = h 1000 (i + 1).toNat := ⟨_, rfl⟩
  obtain ⟨b, eb⟩ : ∃ b, b = h 1000 (i + 2).toNat := ⟨_, rfl⟩
  refine wt_aload_n (i := 1) (x := 0) rfl dL_law_841 ?_
  refine lc_arg (c := 1) dL_law_842 dL_law_843 dL_law_845 dL_law_846 dL_law_847 hi (by decide) (by decide) hl hL ?_
  refine lc_arg (c := 2) dL_law_848 dL_law_849 dL_law_851 dL_law_852 dL_law_853 hi (by decide) (by decide) hl hL ?_
  refine wt_aload_n (i := 3) (x := 77) rfl dL_law_854 ?_
  rw [← ea, ← eb]
  refine wt_cellS (as := [.inr (.inr 0), .inl a, .inl b, .inr (.inr 77)]) (S := []) rfl (by decide) hk hs (tl_cell a b c1 c2) ?_
  -- what the answer of the law's own cell and of the reference have in common
  have main : ∀ (k : Int) (h1 : HP), (∀ x, x ≠ 77 → h1 x = h x) → ((¬ outR h a b ∧ k = 0 ∧ h1 77 0 = h 42 (13 * a.toNat + b.toNat)) ∨ (outR h a b ∧ k = 1)) → Wt mLaw_law 600 20000 (k0 + 1) (s0 + 6) 858 (LL i) [.inl k] SH0 h1 P := by
    intro k h1 hx hv
    have e0 : h1 1000 = h 1000 := hx _ (by decide)
    have e4 : h1 1004 = h 1004 := hx _ (by decide)
    have e43 : h1 43 = h 43 := hx _ (by decide)
    have e76 : h1 76 = h 76 := hx _ (by decide)
    refine wt_istore (i := 5) (by decide) trivial dL_law_858 ?_
    refine wt_aload_n (i := 2) (x := 43) rfl dL_law_860 ?_
    refine lc_argL (c := 1) rfl rfl dL_law_861 dL_law_862 dL_law_864 dL_law_865 dL_law_866 hi (by decide) (by decide) (by rw [e4]; exact hl) (by rw [e4]; exact hL) ?_
    refine lc_argL (c := 2) rfl rfl dL_law_867 dL_law_868 dL_law_870 dL_law_871 dL_law_872 hi (by decide) (by decide) (by rw [e4]; exact hl) (by rw [e4]; exact hL) ?_
    rw [e0, ← ea, ← eb]
    refine lc_call (as := [.inl a, .inl b]) (S := []) ca_12_114 rfl ob_43 (by decide) (by decide) (Nat.le_of_ble_eq_true rfl) (t_Model_cell h1 a b (by rw [e43]; rcases hC with h | h <;> omega) (by rw [e43]; rcases hC with h | h <;> omega)) dL_law_873 (by omega) (by omega) ?_
    intro r h2 hq _
    refine wt_istore (i := 6) (by decide) trivial dL_law_876 ?_
    refine wt_aload_n (i := 2) (x := 43) rfl dL_law_878 ?_
    refine lc_call (as := []) (S := []) ca_12_115 rfl ob_43 (by decide) (by decide) (Nat.le_of_ble_eq_true rfl) (t_Model_thrown h2) dL_law_879 (by omega) (by omega) ?_
    rintro t h3 ⟨rfl, rfl⟩ _
    have hb : bad h1 a b ↔ outR h a b := by
      unfold bad outR
      rw [e43]
      rcases hC with h | h <;> omega
    -- the three values
    have fin : ((k = 0 ∧ h3 43 0 = 0 ∧ h3 77 0 = r) ∨ (k = 1 ∧ h3 43 0 = 1)) ∧ IV h3 ∧ ∀ x, 1000 ≤ x → h3 x = h x := by
      have sf1 : SF [] h h1 := fun x y p _ => by
        rw [hx x (fun z => by subst z; exact p rfl)]
      rcases hq with ⟨z1, z2, rfl⟩ | ⟨z1, z2, rfl⟩
      · have zo := hb.mp z1
        refine ⟨Or.inr ⟨?_, up_s⟩, IV_0 hI (SF.up sf1 (Or.inl rfl)), fun x hx1 => ?_⟩
        · rcases hv with v | v
          · exact absurd zo v.1
          · exact v.2
        · rw [up_ne (by omega), hx x (by omega)]
      · have zo : ¬ outR h a b := fun z => z1 (hb.mpr z)
        refine ⟨Or.inl ?_, IV_0 hI (SF.up sf1 (Or.inl rfl)), fun x hx1 => ?_⟩
        · rcases hv with v | v
          · refine ⟨v.2.1, up_s, ?_⟩
            rw [up_n (by decide), v.2.2, z2, e76]
            have zo' : ¬ (a < 0 ∨ h 41 3 < a ∨ b < 0 ∨ h 41 4 < b) := zo
            rcases hC with q | q
            · omega
            · exact (q.2.2.2.2.2.2 a.toNat b.toNat (by omega) (by omega)).symm
          · exact absurd v.1 zo
        · rw [up_ne (by omega), hx x (by omega)]
    obtain ⟨f1, f2, f3⟩ := fin
    have nn : Wt mLaw_law 600 20000 (k0 + 1) (s0 + 6) 1009 (((LL i).set 5 (some (.inl k))).set 6 (some (.inl r))) [] SH0 h3 P := by
      refine Wt.loc (L' := LL i) (fun x v hxv => ?_) (nx h3 f2 f3)
      match x, hxv with
      | 0, hxv => exact hxv
      | 1, hxv => exact hxv
      | 2, hxv => exact hxv
      | 3, hxv => exact hxv
      | 4, hxv => exact hxv
      | 5, hxv => cases hxv
      | 6, hxv => cases hxv
      | x + 7, hxv => simp [LL] at hxv
    refine wt_iload (i := 5) (x := k) rfl dL_law_882 ?_
    refine wt_icmp (tgt := 889) (by decide) dL_law_884 (fun _ => ?_) (fun z => absurd (show h3 43 0 = k by omega) z)
    refine wt_iload (i := 5) (x := k) rfl dL_law_889 ?_
    refine wt_if (tgt := 906) (by decide) dL_law_891 (fun _ => wt_goto (tgt := 1009) (by decide) dL_law_906 nn) (fun z => ?_)
    have k00 : k = 0 := by
      have z : ¬ ¬ k = 0 := z
      omega
    refine wt_aload_n (i := 3) (x := 77) rfl dL_law_894 ?_
    refine wt_iconst ⟨by decide, by decide⟩ dL_law_895 ?_
    refine wt_laload (k := 77) (n := 1) (x := 0) rfl (by decide) (by decide) dL_law_896 ?_
    refine wt_iload (i := 6) (x := r) rfl dL_law_897 ?_
    refine wt_i2l dL_law_899 ?_
    refine wt_lcmp dL_law_900 ?_
    have e77 : h3 77 (0 : Int).toNat = r := by
      show h3 77 0 = r
      omega
    rw [e77]
    refine wt_if (tgt := 906) (by decide) dL_law_901 (fun _ => wt_goto (tgt := 1009) (by decide) dL_law_906 nn) (fun z => absurd (show (lg_cmp (Int64.ofInt r) (Int64.ofInt r)).toInt = 0 by simp [lg_cmp]) z)
  rintro v sh' h' ⟨rfl, ⟨hr, rfl, rfl⟩ | ⟨hr, rfl, rfl⟩⟩
  · exact main 0 _ (fun x hx => up_ne hx) (Or.inl ⟨hr, rfl, up_s⟩)
  · exact main 1 _ (fun _ _ => rfl) (Or.inr ⟨hr, rfl⟩)
