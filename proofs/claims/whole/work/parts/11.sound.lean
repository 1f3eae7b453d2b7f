/-! the evaluator is sound -/
section
variable {q : Nat × Nat × Nat × Nat} {mi : MI} {sh : SH} {pc len : Nat} {L : List (Option AV)} {S : List AV} {h : HP} {P : Option AV → HP → Prop} {K : Nat → List (Option AV) → List AV → HP → Prop}
theorem inR_small {n : Int} (h1 : -32768 ≤ n) (h2 : n ≤ 32767) : inR n := ⟨by omega, by omega⟩
theorem in_max : Cond.static Lib.Math.max.name ∈ TBL ∧ Cond.static Lib.Math.min.name ∈ TBL ∧ Cond.initialized "java/lang/Math" ∈ TBL ∧ Cond.code Lib.Math.max.name Lib.Math.max.code 2 (some .int) ∈ TBL ∧ Cond.code Lib.Math.min.name Lib.Math.min.code 2 (some .int) ∈ TBL ∧ Cond.native arraycopyName ∈ TBL ∧ Cond.static arraycopyName ∈ TBL ∧ Cond.initialized "java/lang/System" ∈ TBL := by decide +kernel
theorem cat_le {S : List AV} {ad : Nat → Nat} (hn : S.length ≤ 4) : ((S.map (cv ad)).map fun v => v.category).sum ≤ 8 := by
  have := catS_ok (pc := 0) (S := S) (ad := ad) (m := ⟨0, 0⟩) (ls := #[]) (st := []) hn
  omega
theorem wt_max {i : Nat} {x y : Int} (hw : Cond.methodLink (RN (mOwn mi)) i Lib.Math.max.name ∈ TBL) (hfr : 1 ≤ mFr mi) (hlo : 26 ≤ mLo mi) (hS : S.length ≤ 4) (hd : decode (mCode mi) pc = .ok (.invokestatic i, 3)) {mc ms k0 s0 : Nat} {P : Option AV → SH → HP → Prop} (k : Wt mi mc ms k0 s0 (pc + 3) L (.inl (if x < y then y else x) :: S) sh h P) : Wt mi mc ms k0 s0 pc L (.inl y :: .inl x :: S) sh h P := by
  intro p l e R s m args below meth c D cs ad0 n0 rl ro A Q cx he H locs ad ls st hk hs
  have ht := cx.2.2.2.2.2.1
  have hy : inR y := ok_hd st.sok
  have hx : inR x := ok_hd (ok_tl st.sok)
  have hc := cat_le (ad := ad) hS
  refine va_mmax cx.1 cx.2.1 (by rw [cx.2.2.2.1]; exact st.2.2.1.1.symm) cx.2.2.2.2.1 (ht _ hw) (ht _ in_max.1) (ht _ in_max.2.2.1) (ht _ in_max.2.2.2.1) (Nat.le_trans hfr cx.2.2.2.2.2.2.2.2.2.1) (Nat.le_trans (by omega) (Nat.le_trans hlo cx.2.2.2.2.2.2.2.2.2.2.1)) (Nat.le_trans hk cx.2.2.2.2.2.2.2.2.2.2.2.1) (Nat.le_trans hs cx.2.2.2.2.2.2.2.2.2.2.2.2.1) hd ?_
  have := k _ _ _ _ _ _ _ _ _ _ _ _ _ _ _ _ _ _ cx he _ _ _ _ (st.stack (ok_I (x := if x < y then y else x) (by split <;> assumption) (ok_tl (ok_tl st.sok)))) hk hs
  rw [show (if Int32.ofInt x < Int32.ofInt y then Int32.ofInt y else Int32.ofInt x) = Int32.ofInt (if x < y then y else x) from ?_]
  · exact this
  · by_cases hxy : x < y
    · rw [if_pos hxy, if_pos ((ofI_lt hx hy).mpr hxy)]
    · rw [if_neg hxy, if_neg (fun z => hxy ((ofI_lt hx hy).mp z))]
theorem wt_min {i : Nat} {x y : Int} (hw : Cond.methodLink (RN (mOwn mi)) i Lib.Math.min.name ∈ TBL) (hfr : 1 ≤ mFr mi) (hlo : 26 ≤ mLo mi) (hS : S.length ≤ 4) (hd : decode (mCode mi) pc = .ok (.invokestatic i, 3)) {mc ms k0 s0 : Nat} {P : Option AV → SH → HP → Prop} (k : Wt mi mc ms k0 s0 (pc + 3) L (.inl (if y < x then y else x) :: S) sh h P) : Wt mi mc ms k0 s0 pc L (.inl y :: .inl x :: S) sh h P := by
  intro p l e R s m args below meth c D cs ad0 n0 rl ro A Q cx he H locs ad ls st hk hs
  have ht := cx.2.2.2.2.2.1
  have hy : inR y := ok_hd st.sok
  have hx : inR x := ok_hd (ok_tl st.sok)
  have hc := cat_le (ad := ad) hS
  refine va_mmin cx.1 cx.2.1 (by rw [cx.2.2.2.1]; exact st.2.2.1.1.symm) cx.2.2.2.2.1 (ht _ hw) (ht _ in_max.2.1) (ht _ in_max.2.2.1) (ht _ in_max.2.2.2.2.1) (Nat.le_trans hfr cx.2.2.2.2.2.2.2.2.2.1) (Nat.le_trans (by omega) (Nat.le_trans hlo cx.2.2.2.2.2.2.2.2.2.2.1)) (Nat.le_trans hk cx.2.2.2.2.2.2.2.2.2.2.2.1) (Nat.le_trans hs cx.2.2.2.2.2.2.2.2.2.2.2.2.1) hd ?_
  have := k _ _ _ _ _ _ _ _ _ _ _ _ _ _ _ _ _ _ cx he _ _ _ _ (st.stack (ok_I (x := if y < x then y else x) (by split <;> assumption) (ok_tl (ok_tl st.sok)))) hk hs
  rw [show (if Int32.ofInt y < Int32.ofInt x then Int32.ofInt y else Int32.ofInt x) = Int32.ofInt (if y < x then y else x) from ?_]
  · exact this
  · by_cases hxy : y < x
    · rw [if_pos hxy, if_pos ((ofI_lt hy hx).mpr hxy)]
    · rw [if_neg hxy, if_neg (fun z => hxy ((ofI_lt hy hx).mp z))]
theorem okH_cpy (hh : okH h) (ks kd sp dp n : Nat) : okH (cpy h ks kd sp dp n) := by
  intro a b
  unfold cpy
  split
  · exact hh _ _
  · exact hh _ _
theorem cpy_ne {ks kd sp dp n a : Nat} (ha : a ≠ kd) : cpy h ks kd sp dp n a = h a := by
  funext b
  simp [cpy, ha]
theorem wt_copy {i ks kd ns nd : Nat} {n sp dp : Int} (hw : Cond.methodLink (RN (mOwn mi)) i arraycopyName ∈ TBL) (hfr : 1 ≤ mFr mi) (hlo : 26 ≤ mLo mi) (hS : S.length ≤ 4) (hks : sh[ks]? = some (.inl (0, ns))) (hkd : sh[kd]? = some (.inl (0, nd))) (h1 : 0 ≤ n) (h2 : 0 ≤ sp) (h3 : 0 ≤ dp) (h4 : sp + n ≤ ns) (h5 : dp + n ≤ nd) (hd : decode (mCode mi) pc = .ok (.invokestatic i, 3)) {mc ms k0 s0 : Nat} {P : Option AV → SH → HP → Prop} (k : Wt mi mc ms k0 s0 (pc + 3) L S sh (cpy h ks kd sp.toNat dp.toNat n.toNat) P) : Wt mi mc ms k0 s0 pc L (.inl n :: .inl dp :: .inr (.inr kd) :: .inl sp :: .inr (.inr ks) :: S) sh h P := by
  intro p l e R s m args below meth c D cs ad0 n0 rl ro A Q cx he H locs ad ls st hk hs
  have ht := cx.2.2.2.2.2.1
  have q1 : inR n := ok_hd st.sok
  have q2 : inR dp := ok_hd (ok_tl st.sok)
  have q3 : inR sp := ok_hd (ok_tl (ok_tl (ok_tl st.sok)))
  have hc := cat_le (ad := ad) hS
  have q0 : inR 0 := ⟨by decide, by decide⟩
  have hkd1 : kd < 1000 := Nat.lt_of_lt_of_le (List.getElem?_eq_some_iff.mp hkd).1 st.2.2.2.2.2.2.2.2.1
  have nn : ∀ z : Int, inR z → 0 ≤ z → ¬ Int32.ofInt z < 0 := fun z hz h0 hlt => by
    have := (ofI_lt hz q0).mp hlt
    omega
  refine va_copyi cx.1 cx.2.1 (by rw [cx.2.2.2.1]; exact st.2.2.1.1.symm) cx.2.2.2.2.1 (ht _ hw) (ht _ in_max.2.2.2.2.2.1) (ht _ in_max.2.2.2.2.2.2.1) (ht _ in_max.2.2.2.2.2.2.2) cx.2.2.2.2.2.2.2.1.1 st.1.1 st.1.2.1 st.2.1 ks kd 0 0 (f := fun j => Int32.ofInt (h ks j)) (g := fun j => Int32.ofInt (h kd j)) (ty := .int) (by rw [ws_at hks]; rfl) (by rw [ws_at hkd]; rfl) rfl rfl rfl (nn _ q3 h2) (nn _ q2 h3) (nn _ q1 h1) (by rw [ofI_cl q3, ofI_cl q1]; omega) (by rw [ofI_cl q2, ofI_cl q1]; omega) (fun _ _ => rfl) (Nat.le_trans hfr cx.2.2.2.2.2.2.2.2.2.1) (Nat.le_trans (Nat.add_le_add hc (show nativeFrameWords "java/lang/System" "arraycopy" 5 + 11 ≤ 18 by decide)) (Nat.le_trans hlo cx.2.2.2.2.2.2.2.2.2.2.1)) hd (fun H1 locs1 hP hD hS1 => ?_)
  rw [ofI_cl q1, ofI_cl q2, ofI_cl q3] at hP hD
  have e1 : va_cpy (fun j => Int32.ofInt (h ks j)) (fun j => Int32.ofInt (h kd j)) sp.toNat dp.toNat n.toNat = fun b => Int32.ofInt (cpy h ks kd sp.toNat dp.toNat n.toNat kd b) := by
    funext b
    simp only [va_cpy, cpy, true_and]
    split <;> rfl
  rw [e1] at hP hD
  have e2 : ((wsOf cs ad h sh).set kd (ad kd, .inl (cs 0, nd, .inl (fun b => Int32.ofInt (cpy h ks kd sp.toNat dp.toNat n.toNat kd b))))) = wsOf cs ad (cpy h ks kd sp.toNat dp.toNat n.toNat) sh := ws_set hkd (fun a ha => cpy_ne ha)
  rw [e2] at hP hD
  exact k _ _ _ _ _ _ _ _ _ _ _ _ _ _ _ _ _ _ cx he _ _ _ _ (st.wrote hP hD hS1 (okH_cpy st.hok _ _ _ _ _) (fun a ha => cpy_ne (by omega)) (ok_tl (ok_tl (ok_tl (ok_tl (ok_tl st.sok)))))) hk hs
theorem jdk_ok {i j : Nat} (hj : jdkAt (mOwn mi) i = some j) (hfr : 1 ≤ mFr mi) (hlo : 26 ≤ mLo mi) {K : List AV → HP → Prop} (hw : jdk j sh S h K) (hd : decode (mCode mi) pc = .ok (.invokestatic i, 3)) (hK : ∀ S h, K S h → Wn q mi sh (pc + 3) L S h P) : Wn q mi sh pc L S h P := by
  have hl := jdkAt_ok hj
  unfold jdk at hw
  split at hw
  · replace hw := pI_ex hw; obtain ⟨n, S1, rfl, hw⟩ := hw
    replace hw := pI_ex hw; obtain ⟨dp, S2, rfl, hw⟩ := hw
    replace hw := pR_ex hw; obtain ⟨kd, S3, rfl, hw⟩ := hw
    replace hw := pI_ex hw; obtain ⟨sp, S4, rfl, hw⟩ := hw
    replace hw := pR_ex hw; obtain ⟨ks, S5, rfl, hw⟩ := hw
    obtain ⟨h0, ns, nd, h1, h2, ⟨a1, a2, a3, a4, a5⟩, hk⟩ := hw
    exact wt_copy hl hfr hlo h0 (arrAt_ex h1) (arrAt_ex h2) a1 a2 a3 a4 a5 hd (hK _ _ hk)
  · replace hw := pI_ex hw; obtain ⟨y, S1, rfl, hw⟩ := hw
    replace hw := pI_ex hw; obtain ⟨x, S2, rfl, h0, hk⟩ := hw
    exact wt_max hl hfr hlo h0 hd (hK _ _ hk)
  · replace hw := pI_ex hw; obtain ⟨y, S1, rfl, hw⟩ := hw
    replace hw := pI_ex hw; obtain ⟨x, S2, rfl, h0, hk⟩ := hw
    exact wt_min hl hfr hlo h0 hd (hK _ _ hk)
  · exact hw.elim
theorem in_ld : Cond.constant RX11 197 1000000 ∈ TBL ∧ Cond.constantLong RX11 134 255 ∈ TBL ∧ Cond.constantLong RL 19 4294967295 ∈ TBL := by decide +kernel
theorem ldAt_ok {o i : Nat} {w : Int64} (hl : ldAt o i = some w) : Cond.constantLong (RN o) i w ∈ TBL := by
  unfold ldAt at hl
  split at hl
  · rename_i hc
    obtain ⟨rfl, rfl⟩ := hc
    cases hl
    exact in_ld.2.1
  · split at hl
    · rename_i hc
      obtain ⟨rfl, rfl⟩ := hc
      cases hl
      exact in_ld.2.2
    · cases hl
set_option maxHeartbeats 4000000 in
theorem wpI_ok {i : Instr} (hq : q.2.2.1 ≤ q.1 ∧ q.2.2.2 ≤ q.2.1) (hfr : 1 ≤ mFr mi) (hlo : 26 ≤ mLo mi) (hd : decode (mCode mi) pc = .ok (i, len)) (hw : wpI mi sh i len pc L S h K P) (hK : ∀ pc' L' S' h', K pc' L' S' h' → Wn q mi sh pc' L' S' h' P) : Wn q mi sh pc L S h P := by
  cases i with
  | iconst n => obtain ⟨rfl, ⟨h1, h2⟩, hk⟩ := hw; exact wt_iconst (inR_small (by omega) (by omega)) hd (hK _ _ _ _ hk)
  | bipush n => obtain ⟨rfl, ⟨h1, h2⟩, hk⟩ := hw; exact wt_bipush h1 h2 hd (hK _ _ _ _ hk)
  | sipush n => obtain ⟨rfl, ⟨h1, h2⟩, hk⟩ := hw; exact wt_sipush h1 h2 hd (hK _ _ _ _ hk)
  | ldc i =>
    obtain ⟨rfl, ⟨h1, rfl⟩, hk⟩ := hw
    exact wt_ldc (n := 1000000) ⟨by decide, by decide⟩ (by rw [h1]; exact in_ld.1) hd (hK _ _ _ _ hk)
  | ldc2_w i =>
    obtain ⟨rfl, hw⟩ := hw
    unfold lngP at hw
    split at hw
    · rename_i w hf
      exact wt_ldc2 (ldAt_ok hf) hd (hK _ _ _ _ hw)
    · exact hw.elim
  | iload i => obtain ⟨rfl, hw⟩ := hw; replace hw := lI_ex hw; obtain ⟨x, hx, hk⟩ := hw; exact wt_iload hx hd (hK _ _ _ _ hk)
  | aload i => obtain ⟨rfl, hw⟩ := hw; replace hw := lR_ex hw; obtain ⟨x, hx, hk⟩ := hw; exact wt_aload hx hd (hK _ _ _ _ hk)
  | iload_n i => obtain ⟨rfl, hw⟩ := hw; replace hw := lI_ex hw; obtain ⟨x, hx, hk⟩ := hw; exact wt_iload_n hx hd (hK _ _ _ _ hk)
  | aload_n i => obtain ⟨rfl, hw⟩ := hw; replace hw := lR_ex hw; obtain ⟨x, hx, hk⟩ := hw; exact wt_aload_n hx hd (hK _ _ _ _ hk)
  | lload_n i => obtain ⟨rfl, hw⟩ := hw; replace hw := lJ_ex hw; obtain ⟨x, hx, hk⟩ := hw; exact wt_lload_n hx hd (hK _ _ _ _ hk)
  | istore i => obtain ⟨rfl, ⟨h1, h2⟩, hw⟩ := hw; replace hw := pI_ex hw; obtain ⟨x, S1, rfl, hk⟩ := hw; exact wt_istore h1 h2 hd (hK _ _ _ _ hk)
  | istore_n i => obtain ⟨rfl, ⟨h1, h2⟩, hw⟩ := hw; replace hw := pI_ex hw; obtain ⟨x, S1, rfl, hk⟩ := hw; exact wt_istore_n h1 h2 hd (hK _ _ _ _ hk)
  | astore i => obtain ⟨rfl, ⟨h1, h2⟩, hw⟩ := hw; replace hw := pR_ex hw; obtain ⟨x, S1, rfl, hk⟩ := hw; exact wt_astore h1 h2 hd (hK _ _ _ _ hk)
  | astore_n i => obtain ⟨rfl, ⟨h1, h2⟩, hw⟩ := hw; replace hw := pR_ex hw; obtain ⟨x, S1, rfl, hk⟩ := hw; exact wt_astore_n h1 h2 hd (hK _ _ _ _ hk)
  | iinc i n => obtain ⟨rfl, ⟨h1, h2⟩, hw⟩ := hw; replace hw := lI_ex hw; obtain ⟨x, hx, hk⟩ := hw; exact wt_iinc hx h1 h2 hd (hK _ _ _ _ hk)
  | iadd => obtain ⟨rfl, hw⟩ := hw; replace hw := pI_ex hw; obtain ⟨y, S1, rfl, hw⟩ := hw; replace hw := pI_ex hw; obtain ⟨x, S2, rfl, hk⟩ := hw; exact wt_iadd hd (hK _ _ _ _ hk)
  | isub => obtain ⟨rfl, hw⟩ := hw; replace hw := pI_ex hw; obtain ⟨y, S1, rfl, hw⟩ := hw; replace hw := pI_ex hw; obtain ⟨x, S2, rfl, hk⟩ := hw; exact wt_isub hd (hK _ _ _ _ hk)
  | imul => obtain ⟨rfl, hw⟩ := hw; replace hw := pI_ex hw; obtain ⟨y, S1, rfl, hw⟩ := hw; replace hw := pI_ex hw; obtain ⟨x, S2, rfl, hk⟩ := hw; exact wt_imul hd (hK _ _ _ _ hk)
  | iand => obtain ⟨rfl, hw⟩ := hw; replace hw := pI_ex hw; obtain ⟨y, S1, rfl, hw⟩ := hw; replace hw := pI_ex hw; obtain ⟨x, S2, rfl, hk⟩ := hw; exact wt_iand hd (hK _ _ _ _ hk)
  | ishr => obtain ⟨rfl, hw⟩ := hw; replace hw := pI_ex hw; obtain ⟨y, S1, rfl, hw⟩ := hw; replace hw := pI_ex hw; obtain ⟨x, S2, rfl, hk⟩ := hw; exact wt_ishr hd (hK _ _ _ _ hk)
  | i2l => obtain ⟨rfl, hw⟩ := hw; replace hw := pI_ex hw; obtain ⟨x, S1, rfl, hk⟩ := hw; exact wt_i2l hd (hK _ _ _ _ hk)
  | l2i => obtain ⟨rfl, hw⟩ := hw; replace hw := pJ_ex hw; obtain ⟨x, S1, rfl, hk⟩ := hw; exact wt_l2i hd (hK _ _ _ _ hk)
  | lushr => obtain ⟨rfl, hw⟩ := hw; replace hw := pI_ex hw; obtain ⟨y, S1, rfl, hw⟩ := hw; replace hw := pJ_ex hw; obtain ⟨x, S2, rfl, hk⟩ := hw; exact wt_lushr hd (hK _ _ _ _ hk)
  | lshr => obtain ⟨rfl, hw⟩ := hw; replace hw := pI_ex hw; obtain ⟨y, S1, rfl, hw⟩ := hw; replace hw := pJ_ex hw; obtain ⟨x, S2, rfl, hk⟩ := hw; exact wt_lshr hd (hK _ _ _ _ hk)
  | lshl => obtain ⟨rfl, hw⟩ := hw; replace hw := pI_ex hw; obtain ⟨y, S1, rfl, hw⟩ := hw; replace hw := pJ_ex hw; obtain ⟨x, S2, rfl, hk⟩ := hw; exact wt_lshl hd (hK _ _ _ _ hk)
  | land => obtain ⟨rfl, hw⟩ := hw; replace hw := pJ_ex hw; obtain ⟨y, S1, rfl, hw⟩ := hw; replace hw := pJ_ex hw; obtain ⟨x, S2, rfl, hk⟩ := hw; exact wt_land hd (hK _ _ _ _ hk)
  | lor => obtain ⟨rfl, hw⟩ := hw; replace hw := pJ_ex hw; obtain ⟨y, S1, rfl, hw⟩ := hw; replace hw := pJ_ex hw; obtain ⟨x, S2, rfl, hk⟩ := hw; exact wt_lor hd (hK _ _ _ _ hk)
  | lcmp => obtain ⟨rfl, hw⟩ := hw; replace hw := pJ_ex hw; obtain ⟨y, S1, rfl, hw⟩ := hw; replace hw := pJ_ex hw; obtain ⟨x, S2, rfl, hk⟩ := hw; exact wt_lcmp hd (hK _ _ _ _ hk)
  | dup => obtain ⟨rfl, hw⟩ := hw; replace hw := pV_ex hw; obtain ⟨v, S1, rfl, h1, hk⟩ := hw; exact wt_dup h1 hd (hK _ _ _ _ hk)
  | pop => obtain ⟨rfl, hw⟩ := hw; replace hw := pV_ex hw; obtain ⟨v, S1, rfl, h1, hk⟩ := hw; exact wt_pop h1 hd (hK _ _ _ _ hk)
  | dup2 => obtain ⟨rfl, hw⟩ := hw; replace hw := pV_ex hw; obtain ⟨v, S1, rfl, hw⟩ := hw; replace hw := pV_ex hw; obtain ⟨w, S2, rfl, ⟨h1, h2⟩, hk⟩ := hw; exact wt_dup2 h1 h2 hd (hK _ _ _ _ hk)
  | goto off => obtain ⟨rfl, hw⟩ := hw; obtain ⟨t, h1, hk⟩ := jm_ex hw; exact wt_goto h1 hd (hK _ _ _ _ hk)
  | if_icmp cd off => obtain ⟨rfl, hw⟩ := hw; replace hw := pI_ex hw; obtain ⟨y, S1, rfl, hw⟩ := hw; replace hw := pI_ex hw; obtain ⟨x, S2, rfl, hw⟩ := hw; obtain ⟨t, h1, hk1, hk2⟩ := jm_ex hw; exact wt_icmp h1 hd (fun z => hK _ _ _ _ (hk1 z)) (fun z => hK _ _ _ _ (hk2 z))
  | ifCond cd off => obtain ⟨rfl, hw⟩ := hw; replace hw := pI_ex hw; obtain ⟨x, S2, rfl, hw⟩ := hw; obtain ⟨t, h1, hk1, hk2⟩ := jm_ex hw; exact wt_if h1 hd (fun z => hK _ _ _ _ (hk1 z)) (fun z => hK _ _ _ _ (hk2 z))
  | tableswitch d lo hi offs =>
    obtain ⟨hsz, hw⟩ := hw
    replace hw := pI_ex hw; obtain ⟨x, S2, rfl, h1, h2⟩ := hw
    by_cases hc : x < lo ∨ hi < x
    · obtain ⟨t, e, hk⟩ := jm_ex (h2 hc)
      exact wt_table hd (by rw [if_pos hc]; exact e) (fun z => absurd hc z) (hK _ _ _ _ hk)
    · have hlt : (x - lo).toNat < offs.size := by omega
      obtain ⟨t, e, hk⟩ := jm_ex (swP_at offs.toList lo h1 (x - lo).toNat (by simpa using hlt) (by omega))
      refine wt_table (tgt := t) hd ?_ (fun _ => hlt) (hK _ _ _ _ hk)
      rw [if_neg hc, ← e]
      congr 1
      simp [Array.getD, hlt]
  | getfield i =>
    obtain ⟨rfl, hw⟩ := hw
    replace hw := pR_ex hw; obtain ⟨k, S1, rfl, hw⟩ := hw
    unfold fldP at hw
    split at hw
    · rename_i ci j b1 b2 hf
      unfold refP at hw
      split at hw
      · rename_i hr
        obtain ⟨rs, e1, e2⟩ := fldAt_ex hr
        exact wt_getI (fieldAt_ok hf).1 e1 e2 hd (hK _ _ _ _ hw)
      · rename_i q' hr
        obtain ⟨rs, e1, e2⟩ := fldAt_ex hr
        exact wt_getR (fieldAt_ok hf).1 e1 e2 hd (hK _ _ _ _ hw)
      · exact hw.elim
    · exact hw.elim
  | putfield i =>
    obtain ⟨rfl, hw⟩ := hw
    replace hw := pI_ex hw; obtain ⟨x, S1, rfl, hw⟩ := hw
    replace hw := pR_ex hw; obtain ⟨k, S2, rfl, hw⟩ := hw
    unfold fldP at hw
    split at hw
    · rename_i ci j b1 b2 hf
      obtain ⟨⟨hb1, hb2⟩, hw⟩ := hw
      unfold refP at hw
      split at hw
      · rename_i hr
        obtain ⟨rs, e1, e2⟩ := fldAt_ex hr
        have hff := fieldAt_ok hf
        exact wt_putI hff.1 (hff.2.1 hb1) (hff.2.2.2.trans hb2) e1 e2 hd (hK _ _ _ _ hw)
      · exact hw.elim
      · exact hw.elim
    · exact hw.elim
  | getstatic i =>
    obtain ⟨rfl, hw⟩ := hw
    unfold natP at hw
    split at hw
    · rename_i k hf
      exact wt_gets (statAt_ok hf).1 (statAt_ok hf).2 hd (hK _ _ _ _ hw)
    · exact hw.elim
  | iaload =>
    obtain ⟨rfl, hw⟩ := hw
    replace hw := pI_ex hw; obtain ⟨x, S1, rfl, hw⟩ := hw
    replace hw := pR_ex hw; obtain ⟨k, S2, rfl, hw⟩ := hw
    unfold lenP at hw
    split at hw
    · rename_i t n hf
      obtain ⟨rfl, ⟨h0, h1⟩, hk⟩ := hw
      rcases rd_ro hf with ⟨r1, r2, r3, r4⟩ | hf
      · subst r4
        exact wt_ialoadR ⟨r1, r2⟩ h0 h1 hd (hK _ _ _ _ hk)
      · exact wt_iaload (arrAt_ex hf) h0 h1 hd (hK _ _ _ _ hk)
    · exact hw.elim
  | baload =>
    obtain ⟨rfl, hw⟩ := hw
    replace hw := pI_ex hw; obtain ⟨x, S1, rfl, hw⟩ := hw
    replace hw := pR_ex hw; obtain ⟨k, S2, rfl, hw⟩ := hw
    unfold lenP at hw
    split at hw
    · rename_i t n hf
      obtain ⟨rfl, ⟨h0, h1⟩, hk⟩ := hw
      exact wt_baload (arrAt_ex hf) h0 h1 hd (hK _ _ _ _ hk)
    · exact hw.elim
  | laload =>
    obtain ⟨rfl, hw⟩ := hw
    replace hw := pI_ex hw; obtain ⟨x, S1, rfl, hw⟩ := hw
    replace hw := pR_ex hw; obtain ⟨k, S2, rfl, hw⟩ := hw
    unfold lenP at hw
    split at hw
    · rename_i t n hf
      obtain ⟨rfl, ⟨h0, h1⟩, hk⟩ := hw
      exact wt_laload (arrAt_ex hf) h0 h1 hd (hK _ _ _ _ hk)
    · exact hw.elim
  | iastore =>
    obtain ⟨rfl, hw⟩ := hw
    replace hw := pI_ex hw; obtain ⟨y, S0, rfl, hw⟩ := hw
    replace hw := pI_ex hw; obtain ⟨x, S1, rfl, hw⟩ := hw
    replace hw := pR_ex hw; obtain ⟨k, S2, rfl, hw⟩ := hw
    unfold lenP at hw
    split at hw
    · rename_i t n hf
      obtain ⟨rfl, ⟨h0, h1⟩, hk⟩ := hw
      exact wt_iastore (arrAt_ex hf) h0 h1 hd (hK _ _ _ _ hk)
    · exact hw.elim
  | bastore =>
    obtain ⟨rfl, hw⟩ := hw
    replace hw := pI_ex hw; obtain ⟨y, S0, rfl, hw⟩ := hw
    replace hw := pI_ex hw; obtain ⟨x, S1, rfl, hw⟩ := hw
    replace hw := pR_ex hw; obtain ⟨k, S2, rfl, hw⟩ := hw
    unfold lenP at hw
    split at hw
    · rename_i t n hf
      obtain ⟨rfl, ⟨h0, h1⟩, hy, hk⟩ := hw
      exact wt_bastore (arrAt_ex hf) h0 h1 hy hd (hK _ _ _ _ hk)
    · exact hw.elim
  | arraylength => obtain ⟨rfl, hw⟩ := hw; replace hw := pR_ex hw; obtain ⟨k, S1, rfl, h1, hk⟩ := hw; exact wt_alenR h1 hd (hK _ _ _ _ hk)
  | invokevirtual i =>
    obtain ⟨rfl, hw⟩ := hw
    unfold callP at hw
    split at hw
    · rename_i kd n q' hf
      simp only [if_true] at hw
      obtain ⟨rfl, hw⟩ := hw
      replace hw := popN_ex _ _ _ hw; obtain ⟨as, S1, rfl, hlen, hw⟩ := hw
      replace hw := pR_ex hw; obtain ⟨k, S2, rfl, ⟨ho, h4, hf1, hf2⟩, hw⟩ := hw
      rw [List.append_nil] at hw
      obtain ⟨rs, e1⟩ := objAt_ex ho
      obtain ⟨c1, c2, c3, c4, c5, c6, c7, c8, c9, c10⟩ := callAt_ok hf
      subst hlen
      exact wn_call (S := S2) hw (fun P' hT hk => wt_callV ⟨c8 (by decide), c1, c2, c3, c4, c5, c6⟩ (c9 rfl).1 (c9 rfl).2 e1 hf1 hf2 h4 hq.1 hq.2 hT hd hk) (fun r h' hk => hK _ _ _ _ hk) (fun h' hk => hK _ _ _ _ hk)
    · exact hw.elim
  | invokestatic i =>
    obtain ⟨rfl, hw⟩ := hw
    unfold callP at hw
    split at hw
    · rename_i kd n q' hf
      simp only [Bool.false_eq_true, if_false] at hw
      obtain ⟨hkd, hw⟩ := hw
      replace hw := popN_ex _ _ _ hw; obtain ⟨as, S1, rfl, hlen, hw⟩ := hw
      obtain ⟨⟨h4, hf1, hf2⟩, hw⟩ := hw
      rw [List.append_nil] at hw
      obtain ⟨c1, c2, c3, c4, c5, c6, c7, c8, c9, c10⟩ := callAt_ok hf
      subst hlen
      by_cases hk2 : kd = 2
      · exact wn_call (S := S1) hw (fun P' hT hk => wt_callSN ⟨c7 hk2, c10 hkd, c1, c2, c4, c5, c6⟩ hf1 hf2 h4 hq.1 hq.2 hT hd hk) (fun r h' hk => hK _ _ _ _ hk) (fun h' hk => hK _ _ _ _ hk)
      · exact wn_call (S := S1) hw (fun P' hT hk => wt_callS ⟨c8 hk2, c1, c2, c3, c4, c5, c6⟩ (c10 hkd) hf1 hf2 h4 hq.1 hq.2 hT hd hk) (fun r h' hk => hK _ _ _ _ hk) (fun h' hk => hK _ _ _ _ hk)
    · unfold natP at hw
      split at hw
      · rename_i j hj
        exact jdk_ok hj hfr hlo hw hd (fun S h hk => hK _ _ _ _ hk)
      · exact hw.elim
  | ireturn =>
    obtain ⟨rfl, hw⟩ := hw
    replace hw := pI_ex hw; obtain ⟨x, S1, rfl, rfl, hr, hp⟩ := hw
    refine wt_ireturn ?_ hd ⟨rfl, hp⟩
    unfold retP at hr
    split at hr
    · rename_i e; exact Or.inl e
    · rename_i e; exact Or.inr ⟨e, hr⟩
    · exact hr.elim
  | return_ => obtain ⟨rfl, rfl, hr, hp⟩ := hw; exact wt_return hr hd ⟨rfl, hp⟩
  | _ => exact hw.elim
theorem wp_ok (hq : q.2.2.1 ≤ q.1 ∧ q.2.2.2 ≤ q.2.1) (hfr : 1 ≤ mFr mi) (hlo : 26 ≤ mLo mi) {cuts : List Nat} : ∀ (n pc : Nat) (L : List (Option AV)) (S : List AV) (h : HP), wp q mi sh cuts n pc L S h P → Wn q mi sh pc L S h P
  | 0, pc, L, S, h, hw => hw
  | n + 1, pc, L, S, h, hw => by
    unfold wp at hw
    split at hw
    · rename_i i len hd
      refine wpI_ok hq hfr hlo hd hw (fun pc' L' S' h' hk => ?_)
      split at hk
      · exact hk
      · exact wp_ok hq hfr hlo n pc' L' S' h' hk
    · exact hw.elim
theorem trI_of {as : List AV} {Q : Int → HP → Prop} (hp : plainName (mName mi).cls = true) (ho : (mName mi).cls = RN (mOwn mi)) (hl : (entL as).length ≤ mMaxL mi) (k : Wn (0, 0, 0, 0) mi sh 0 (entP as (mMaxL mi)) [] h (rtI Q)) (hc : Cond.code (mName mi) (mCode mi) (mMaxL mi) (mRet mi) ∈ TBL) : trI mi as sh h Q := Tr.of hp ho hc hl k
theorem trV_of {as : List AV} {Q : HP → Prop} (hp : plainName (mName mi).cls = true) (ho : (mName mi).cls = RN (mOwn mi)) (hl : (entL as).length ≤ mMaxL mi) (k : Wn (0, 0, 0, 0) mi sh 0 (entP as (mMaxL mi)) [] h (rtV Q)) (hc : Cond.code (mName mi) (mCode mi) (mMaxL mi) (mRet mi) ∈ TBL) : trV mi as sh h Q := Tr.of hp ho hc hl k
end
