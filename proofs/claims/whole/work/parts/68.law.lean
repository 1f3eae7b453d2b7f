/-! the law's loop, but for the case of cell -/
theorem Wt.okh {mi : MI} {mc ms k0 s0 pc : Nat} {L : List (Option AV)} {S : List AV} {sh : SH} {h : HP} {P : Option AV → SH → HP → Prop} (k : okH h → Wt mi mc ms k0 s0 pc L S sh h P) : Wt mi mc ms k0 s0 pc L S sh h P :=
  fun p l e R s m args below meth c D cs ad0 n0 rl ro A Q cx he H locs ad ls st hk hs => k st.2.2.2.2.2.1 p l e R s m args below meth c D cs ad0 n0 rl ro A Q cx he H locs ad ls st hk hs
theorem Wt.loc {mi : MI} {mc ms k0 s0 pc : Nat} {L L' : List (Option AV)} {S : List AV} {sh : SH} {h : HP} {P : Option AV → SH → HP → Prop} (hl : ∀ (i : Nat) v, L'[i]? = some (some v) → L[i]? = some (some v)) (k : Wt mi mc ms k0 s0 pc L' S sh h P) : Wt mi mc ms k0 s0 pc L S sh h P :=
  fun p l e R s m args below meth c D cs ad0 n0 rl ro A Q cx he H locs ad ls st hk hs => k p l e R s m args below meth c D cs ad0 n0 rl ro A Q cx he H locs ad ls ⟨st.1, st.2.1, ⟨st.2.2.1.1, st.2.2.1.2.1, fun i v e => st.2.2.1.2.2 i v (hl i v e)⟩, fun i v e => st.2.2.2.1 i v (hl i v e), st.2.2.2.2⟩ hk hs
theorem Tr.ro {mi : MI} {mc ms : Nat} {as : List AV} {sh : SH} {h : HP} {P : Option AV → SH → HP → Prop} (k : Tr mi mc ms as sh h P) : Tr mi mc ms as sh h (fun v sh' h' => P v sh' h' ∧ ∀ k, 1000 ≤ k → h' k = h k) := by
  intro l D cs ad rl ro sz a0 a1 a2 a3 a4 p e b1 b2 b3 s m args below b4 b5 b6 b7
  obtain ⟨n, o, c1, c2, c3, ⟨⟨v, sh', h', ad', d1, d2, d3, d4, d5, d6⟩, d7⟩, c5⟩ := k l D cs ad rl ro sz a0 a1 a2 a3 a4 p e b1 b2 b3 s m args below b4 b5 b6 b7
  exact ⟨n, o, c1, c2, c3, ⟨⟨v, sh', h', ad', d1, ⟨d2, fun k hk => (d5 k hk).trans (a3 k hk).symm⟩, d3, d4, d5, d6⟩, d7⟩, c5⟩
def LL (i : Int) : List (Option AV) := [some (.inr (.inr 1000)), some (.inr (.inr 0)), some (.inr (.inr 43)), some (.inr (.inr 77)), some (.inl i), none, none]
section
variable {mc ms k0 s0 : Nat} {h : HP} {P : Option AV → SH → HP → Prop} {S : List AV} {i : Int}
theorem lc_call {ix k n pc : Nat} {q : MI} {as : List AV} {Q : Int → HP → Prop} {L : List (Option AV)} (hf : callAt 12 ix = some (0, n, q)) (hn : as.length = n) (hk : objAt SH0 k = some (mOwn q)) (hfr : mFr q + 1 ≤ 9) (hlo : 8 + (mMaxL q + 11) + mLo q ≤ 242) (hS4 : S.length ≤ 4) (hT : trI q (.inr (.inr k) :: as) SH0 h Q) (hd : decode cL_law pc = .ok (.invokevirtual ix, 3)) (hk0 : k0 ≤ mc) (hs0 : s0 ≤ ms)
    (kk : ∀ r h', Q r h' → (∀ k, 1000 ≤ k → h' k = h k) → Wt mLaw_law mc ms k0 s0 (pc + 3) L (.inl r :: S) SH0 h' P) : Wt mLaw_law mc ms k0 s0 pc L (as.reverse ++ .inr (.inr k) :: S) SH0 h P := by
  obtain ⟨rs, e1⟩ := objAt_ex hk
  obtain ⟨c1, c2, c3, c4, c5, c6, c7, c8, c9, c10⟩ := callAt_ok hf
  subst hn
  refine wt_callV (mc' := 0) (ms' := 0) ⟨c8 (by decide), c1, c2, c3, c4, c5, c6⟩ (c9 rfl).1 (c9 rfl).2 e1 hfr hlo hS4 hk0 hs0 (Tr.ro hT) hd ?_
  rintro v sh' h' ⟨⟨rfl, hq⟩, hr⟩
  obtain ⟨r, rfl, hq⟩ := rtI_ex hq
  exact kk r h' hq hr
theorem lc_arg {pc : Nat} {c : Int} (d0 : decode cL_law pc = .ok (.aload_n 0, 1)) (d1 : decode cL_law (pc + 1) = .ok (.iload 4, 2)) (d2 : decode cL_law (pc + 3) = .ok (.iconst c, 1)) (d3 : decode cL_law (pc + 4) = .ok (.iadd, 1)) (d4 : decode cL_law (pc + 5) = .ok (.iaload, 1)) (hi : 0 ≤ i) (hc0 : 0 ≤ c) (hc : c ≤ 3) (hl : i + 4 ≤ h 1004 0) (hL : h 1004 0 ≤ 2048)
    (kk : Wt mLaw_law mc ms k0 s0 (pc + 6) (LL i) (.inl (h 1000 (i + c).toNat) :: S) SH0 h P) : Wt mLaw_law mc ms k0 s0 pc (LL i) S SH0 h P := by
  refine wt_aload_n (i := 0) (x := 1000) rfl d0 ?_
  refine wt_iload (x := i) rfl d1 ?_
  refine wt_iconst ⟨by omega, by omega⟩ d2 ?_
  refine wt_iadd d3 ?_
  rw [wr_id (by omega) (by omega)]
  exact wt_ialoadX (by omega) (by omega) d4 kk
theorem lc_bool {pc : Nat} {a : Int} (d0 : decode cL_law pc = .ok (.ifCond .eq 7, 3)) (d1 : decode cL_law (pc + 3) = .ok (.iconst 1, 1)) (d2 : decode cL_law (pc + 4) = .ok (.goto 4, 3)) (d3 : decode cL_law (pc + 7) = .ok (.iconst 0, 1))
    (kk : Wt mLaw_law mc ms k0 s0 (pc + 8) (LL i) (.inl (if a = 0 then 0 else 1) :: S) SH0 h P) : Wt mLaw_law mc ms k0 s0 pc (LL i) (.inl a :: S) SH0 h P := by
  refine wt_if (tgt := pc + 7) (by omega) d0 (fun z => ?_) (fun z => ?_)
  · rw [if_pos (show a = 0 from z)] at kk
    exact wt_iconst ⟨by decide, by decide⟩ d3 kk
  · rw [if_neg (show ¬ a = 0 from z)] at kk
    refine wt_iconst ⟨by decide, by decide⟩ d1 ?_
    exact wt_goto (tgt := pc + 8) (by omega) d2 kk
end
def NX (mc ms k0 s0 : Nat) (h : HP) (i : Int) (P : Option AV → SH → HP → Prop) : Prop := ∀ h', IV h' → (∀ k, 1000 ≤ k → h' k = h k) → Wt mLaw_law mc ms k0 s0 1009 (LL i) [] SH0 h' P
def LCell (P : Option AV → SH → HP → Prop) : Prop := ∀ (h : HP) (i : Int) (k0 s0 : Nat), IV h → 0 ≤ i → i + 4 ≤ h 1004 0 → h 1004 0 ≤ 2048 → k0 + 1 ≤ 600 → s0 + 6 ≤ 20000 → NX 600 20000 (k0 + 1) (s0 + 6) h i P → Wt mLaw_law 600 20000 k0 s0 841 (LL i) [] SH0 h P
theorem lc_feed {mc ms k0 s0 : Nat} {h : HP} {P : Option AV → SH → HP → Prop} {i : Int} (hI : IV h) (hi : 0 ≤ i) (hl : i + 4 ≤ h 1004 0) (hL : h 1004 0 ≤ 2048) (hk0 : k0 ≤ mc) (hs0 : s0 ≤ ms) (nx : NX mc ms k0 s0 h i P) : Wt mLaw_law mc ms k0 s0 156 (LL i) [] SH0 h P := by
  refine Wt.okh fun ok => ?_
  obtain ⟨Q, t1, k1⟩ := p_feed hI (h 1000 (i + 1).toNat) (ok _ _) ((lshl (Int64.ofInt (h 1000 (i + 2).toNat)) 32 ||| (Int64.ofInt (h 1000 (i + 3).toNat) &&& (4294967295 : Int64))))
  refine wt_aload_n (i := 1) rfl dL_law_156 ?_
  refine lc_arg (c := 1) dL_law_157 dL_law_158 dL_law_160 dL_law_161 dL_law_162 hi (by decide) (by decide) hl hL ?_
  refine lc_arg (c := 2) dL_law_163 dL_law_164 dL_law_166 dL_law_167 dL_law_168 hi (by decide) (by decide) hl hL ?_
  refine wt_i2l dL_law_169 ?_
  refine wt_bipush (by decide) (by decide) dL_law_170 ?_
  refine wt_lshl dL_law_172 ?_
  refine lc_arg (c := 3) dL_law_173 dL_law_174 dL_law_176 dL_law_177 dL_law_178 hi (by decide) (by decide) hl hL ?_
  refine wt_i2l dL_law_179 ?_
  refine wt_ldc2 (n := 4294967295) (mem_TBL (List.mem_of_getElem? (i := 1253) (by decide +kernel)) rfl) dL_law_180 ?_
  refine wt_land dL_law_183 ?_
  refine wt_lor dL_law_184 ?_
  refine lc_call (as := [.inl (h 1000 (i + 1).toNat), .inr (.inl ((lshl (Int64.ofInt (h 1000 (i + 2).toNat)) 32 ||| (Int64.ofInt (h 1000 (i + 3).toNat) &&& (4294967295 : Int64)))))]) (S := []) ca_12_21 rfl ob_0 (by decide) (by decide) (Nat.le_of_ble_eq_true rfl) t1 dL_law_185 hk0 hs0 ?_
  intro r h1 hq hr1
  obtain ⟨Q', t2, k2⟩ := k1 r h1 hq
  have e1 : h1 1000 = h 1000 := hr1 1000 (by decide)
  have e4 : h1 1004 = h 1004 := hr1 1004 (by decide)
  refine wt_aload_n (i := 2) rfl dL_law_188 ?_
  refine lc_arg (c := 1) dL_law_189 dL_law_190 dL_law_192 dL_law_193 dL_law_194 hi (by decide) (by decide) (by rw [e4]; exact hl) (by rw [e4]; exact hL) ?_
  rw [e1]
  refine lc_arg (c := 2) dL_law_195 dL_law_196 dL_law_198 dL_law_199 dL_law_200 hi (by decide) (by decide) (by rw [e4]; exact hl) (by rw [e4]; exact hL) ?_
  rw [e1]
  refine wt_i2l dL_law_201 ?_
  refine wt_bipush (by decide) (by decide) dL_law_202 ?_
  refine wt_lshl dL_law_204 ?_
  refine lc_arg (c := 3) dL_law_205 dL_law_206 dL_law_208 dL_law_209 dL_law_210 hi (by decide) (by decide) (by rw [e4]; exact hl) (by rw [e4]; exact hL) ?_
  rw [e1]
  refine wt_i2l dL_law_211 ?_
  refine wt_ldc2 (n := 4294967295) (mem_TBL (List.mem_of_getElem? (i := 1253) (by decide +kernel)) rfl) dL_law_212 ?_
  refine wt_land dL_law_215 ?_
  refine wt_lor dL_law_216 ?_
  refine lc_call (as := [.inl (h 1000 (i + 1).toNat), .inr (.inl ((lshl (Int64.ofInt (h 1000 (i + 2).toNat)) 32 ||| (Int64.ofInt (h 1000 (i + 3).toNat) &&& (4294967295 : Int64)))))]) (S := [.inl r]) ca_12_25 rfl ob_43 (by decide) (by decide) (Nat.le_of_ble_eq_true rfl) t2 dL_law_217 hk0 hs0 ?_
  intro r' h2 hq' hr2
  obtain ⟨rfl, hI2⟩ := k2 r' h2 hq'
  exact wt_icmp (tgt := 1009) (by decide) dL_law_220 (fun _ => nx h2 hI2 (fun k hk => (hr2 k hk).trans (hr1 k hk))) (fun z => absurd rfl z)
theorem lc_word {mc ms k0 s0 : Nat} {h : HP} {P : Option AV → SH → HP → Prop} {i : Int} (hI : IV h) (hi : 0 ≤ i) (hl : i + 4 ≤ h 1004 0) (hL : h 1004 0 ≤ 2048) (hk0 : k0 ≤ mc) (hs0 : s0 ≤ ms) (nx : NX mc ms k0 s0 h i P) : Wt mLaw_law mc ms k0 s0 225 (LL i) [] SH0 h P := by
  refine Wt.okh fun ok => ?_
  obtain ⟨Q, t1, k1⟩ := p_word hI (h 1000 (i + 1).toNat)
  refine wt_aload_n (i := 1) rfl dL_law_225 ?_
  refine lc_arg (c := 1) dL_law_226 dL_law_227 dL_law_229 dL_law_230 dL_law_231 hi (by decide) (by decide) hl hL ?_
  refine lc_call (as := [.inl (h 1000 (i + 1).toNat)]) (S := []) ca_12_26 rfl ob_0 (by decide) (by decide) (Nat.le_of_ble_eq_true rfl) t1 dL_law_232 hk0 hs0 ?_
  intro r h1 hq hr1
  obtain ⟨Q', t2, k2⟩ := k1 r h1 hq
  have e1 : h1 1000 = h 1000 := hr1 1000 (by decide)
  have e4 : h1 1004 = h 1004 := hr1 1004 (by decide)
  refine wt_aload_n (i := 2) rfl dL_law_235 ?_
  refine lc_arg (c := 1) dL_law_236 dL_law_237 dL_law_239 dL_law_240 dL_law_241 hi (by decide) (by decide) (by rw [e4]; exact hl) (by rw [e4]; exact hL) ?_
  rw [e1]
  refine lc_call (as := [.inl (h 1000 (i + 1).toNat)]) (S := [.inl r]) ca_12_30 rfl ob_43 (by decide) (by decide) (Nat.le_of_ble_eq_true rfl) t2 dL_law_242 hk0 hs0 ?_
  intro r' h2 hq' hr2
  obtain ⟨rfl, hI2⟩ := k2 r' h2 hq'
  exact wt_icmp (tgt := 1009) (by decide) dL_law_245 (fun _ => nx h2 hI2 (fun k hk => (hr2 k hk).trans (hr1 k hk))) (fun z => absurd rfl z)
theorem lc_scope {mc ms k0 s0 : Nat} {h : HP} {P : Option AV → SH → HP → Prop} {i : Int} (hI : IV h) (hi : 0 ≤ i) (hl : i + 4 ≤ h 1004 0) (hL : h 1004 0 ≤ 2048) (hk0 : k0 ≤ mc) (hs0 : s0 ≤ ms) (nx : NX mc ms k0 s0 h i P) : Wt mLaw_law mc ms k0 s0 250 (LL i) [] SH0 h P := by
  refine Wt.okh fun ok => ?_
  obtain ⟨Q, t1, k1⟩ := p_scope hI (h 1000 (i + 1).toNat) ((if h 1000 (i + 2).toNat = 0 then 0 else 1)) (by split <;> simp)
  refine wt_aload_n (i := 1) rfl dL_law_250 ?_
  refine lc_arg (c := 1) dL_law_251 dL_law_252 dL_law_254 dL_law_255 dL_law_256 hi (by decide) (by decide) hl hL ?_
  refine lc_arg (c := 2) dL_law_257 dL_law_258 dL_law_260 dL_law_261 dL_law_262 hi (by decide) (by decide) hl hL ?_
  refine lc_bool dL_law_263 dL_law_266 dL_law_267 dL_law_270 ?_
  refine lc_call (as := [.inl (h 1000 (i + 1).toNat), .inl ((if h 1000 (i + 2).toNat = 0 then 0 else 1))]) (S := []) ca_12_31 rfl ob_0 (by decide) (by decide) (Nat.le_of_ble_eq_true rfl) t1 dL_law_271 hk0 hs0 ?_
  intro r h1 hq hr1
  obtain ⟨Q', t2, k2⟩ := k1 r h1 hq
  have e1 : h1 1000 = h 1000 := hr1 1000 (by decide)
  have e4 : h1 1004 = h 1004 := hr1 1004 (by decide)
  refine wt_aload_n (i := 2) rfl dL_law_274 ?_
  refine lc_arg (c := 1) dL_law_275 dL_law_276 dL_law_278 dL_law_279 dL_law_280 hi (by decide) (by decide) (by rw [e4]; exact hl) (by rw [e4]; exact hL) ?_
  rw [e1]
  refine lc_arg (c := 2) dL_law_281 dL_law_282 dL_law_284 dL_law_285 dL_law_286 hi (by decide) (by decide) (by rw [e4]; exact hl) (by rw [e4]; exact hL) ?_
  rw [e1]
  refine lc_bool dL_law_287 dL_law_290 dL_law_291 dL_law_294 ?_
  refine lc_call (as := [.inl (h 1000 (i + 1).toNat), .inl ((if h 1000 (i + 2).toNat = 0 then 0 else 1))]) (S := [.inl r]) ca_12_35 rfl ob_43 (by decide) (by decide) (Nat.le_of_ble_eq_true rfl) t2 dL_law_295 hk0 hs0 ?_
  intro r' h2 hq' hr2
  obtain ⟨rfl, hI2⟩ := k2 r' h2 hq'
  exact wt_icmp (tgt := 1009) (by decide) dL_law_298 (fun _ => nx h2 hI2 (fun k hk => (hr2 k hk).trans (hr1 k hk))) (fun z => absurd rfl z)
theorem lc_classes {mc ms k0 s0 : Nat} {h : HP} {P : Option AV → SH → HP → Prop} {i : Int} (hI : IV h) (hi : 0 ≤ i) (hl : i + 4 ≤ h 1004 0) (hL : h 1004 0 ≤ 2048) (hk0 : k0 ≤ mc) (hs0 : s0 ≤ ms) (nx : NX mc ms k0 s0 h i P) : Wt mLaw_law mc ms k0 s0 303 (LL i) [] SH0 h P := by
  refine Wt.okh fun ok => ?_
  obtain ⟨Q, t1, k1⟩ := p_classes hI (h 1000 (i + 1).toNat) (h 1000 (i + 2).toNat)
  refine wt_aload_n (i := 1) rfl dL_law_303 ?_
  refine lc_arg (c := 1) dL_law_304 dL_law_305 dL_law_307 dL_law_308 dL_law_309 hi (by decide) (by decide) hl hL ?_
  refine lc_arg (c := 2) dL_law_310 dL_law_311 dL_law_313 dL_law_314 dL_law_315 hi (by decide) (by decide) hl hL ?_
  refine lc_call (as := [.inl (h 1000 (i + 1).toNat), .inl (h 1000 (i + 2).toNat)]) (S := []) ca_12_36 rfl ob_0 (by decide) (by decide) (Nat.le_of_ble_eq_true rfl) t1 dL_law_316 hk0 hs0 ?_
  intro r h1 hq hr1
  obtain ⟨Q', t2, k2⟩ := k1 r h1 hq
  have e1 : h1 1000 = h 1000 := hr1 1000 (by decide)
  have e4 : h1 1004 = h 1004 := hr1 1004 (by decide)
  refine wt_aload_n (i := 2) rfl dL_law_319 ?_
  refine lc_arg (c := 1) dL_law_320 dL_law_321 dL_law_323 dL_law_324 dL_law_325 hi (by decide) (by decide) (by rw [e4]; exact hl) (by rw [e4]; exact hL) ?_
  rw [e1]
  refine lc_arg (c := 2) dL_law_326 dL_law_327 dL_law_329 dL_law_330 dL_law_331 hi (by decide) (by decide) (by rw [e4]; exact hl) (by rw [e4]; exact hL) ?_
  rw [e1]
  refine lc_call (as := [.inl (h 1000 (i + 1).toNat), .inl (h 1000 (i + 2).toNat)]) (S := [.inl r]) ca_12_39 rfl ob_43 (by decide) (by decide) (Nat.le_of_ble_eq_true rfl) t2 dL_law_332 hk0 hs0 ?_
  intro r' h2 hq' hr2
  obtain ⟨rfl, hI2⟩ := k2 r' h2 hq'
  exact wt_icmp (tgt := 1009) (by decide) dL_law_335 (fun _ => nx h2 hI2 (fun k hk => (hr2 k hk).trans (hr1 k hk))) (fun z => absurd rfl z)
theorem lc_danger {mc ms k0 s0 : Nat} {h : HP} {P : Option AV → SH → HP → Prop} {i : Int} (hI : IV h) (hi : 0 ≤ i) (hl : i + 4 ≤ h 1004 0) (hL : h 1004 0 ≤ 2048) (hk0 : k0 ≤ mc) (hs0 : s0 ≤ ms) (nx : NX mc ms k0 s0 h i P) : Wt mLaw_law mc ms k0 s0 340 (LL i) [] SH0 h P := by
  refine Wt.okh fun ok => ?_
  obtain ⟨Q, t1, k1⟩ := p_danger hI (h 1000 (i + 1).toNat) ((if h 1000 (i + 2).toNat = 0 then 0 else 1)) (by split <;> simp)
  refine wt_aload_n (i := 1) rfl dL_law_340 ?_
  refine lc_arg (c := 1) dL_law_341 dL_law_342 dL_law_344 dL_law_345 dL_law_346 hi (by decide) (by decide) hl hL ?_
  refine lc_arg (c := 2) dL_law_347 dL_law_348 dL_law_350 dL_law_351 dL_law_352 hi (by decide) (by decide) hl hL ?_
  refine lc_bool dL_law_353 dL_law_356 dL_law_357 dL_law_360 ?_
  refine lc_call (as := [.inl (h 1000 (i + 1).toNat), .inl ((if h 1000 (i + 2).toNat = 0 then 0 else 1))]) (S := []) ca_12_40 rfl ob_0 (by decide) (by decide) (Nat.le_of_ble_eq_true rfl) t1 dL_law_361 hk0 hs0 ?_
  intro r h1 hq hr1
  obtain ⟨Q', t2, k2⟩ := k1 r h1 hq
  have e1 : h1 1000 = h 1000 := hr1 1000 (by decide)
  have e4 : h1 1004 = h 1004 := hr1 1004 (by decide)
  refine wt_aload_n (i := 2) rfl dL_law_364 ?_
  refine lc_arg (c := 1) dL_law_365 dL_law_366 dL_law_368 dL_law_369 dL_law_370 hi (by decide) (by decide) (by rw [e4]; exact hl) (by rw [e4]; exact hL) ?_
  rw [e1]
  refine lc_arg (c := 2) dL_law_371 dL_law_372 dL_law_374 dL_law_375 dL_law_376 hi (by decide) (by decide) (by rw [e4]; exact hl) (by rw [e4]; exact hL) ?_
  rw [e1]
  refine lc_bool dL_law_377 dL_law_380 dL_law_381 dL_law_384 ?_
  refine lc_call (as := [.inl (h 1000 (i + 1).toNat), .inl ((if h 1000 (i + 2).toNat = 0 then 0 else 1))]) (S := [.inl r]) ca_12_43 rfl ob_43 (by decide) (by decide) (Nat.le_of_ble_eq_true rfl) t2 dL_law_385 hk0 hs0 ?_
  intro r' h2 hq' hr2
  obtain ⟨rfl, hI2⟩ := k2 r' h2 hq'
  exact wt_icmp (tgt := 1009) (by decide) dL_law_388 (fun _ => nx h2 hI2 (fun k hk => (hr2 k hk).trans (hr1 k hk))) (fun z => absurd rfl z)
theorem lc_rule {mc ms k0 s0 : Nat} {h : HP} {P : Option AV → SH → HP → Prop} {i : Int} (hI : IV h) (hi : 0 ≤ i) (hl : i + 4 ≤ h 1004 0) (hL : h 1004 0 ≤ 2048) (hk0 : k0 ≤ mc) (hs0 : s0 ≤ ms) (nx : NX mc ms k0 s0 h i P) : Wt mLaw_law mc ms k0 s0 393 (LL i) [] SH0 h P := by
  refine Wt.okh fun ok => ?_
  obtain ⟨Q, t1, k1⟩ := p_rule hI (h 1000 (i + 1).toNat)
  refine wt_aload_n (i := 1) rfl dL_law_393 ?_
  refine lc_arg (c := 1) dL_law_394 dL_law_395 dL_law_397 dL_law_398 dL_law_399 hi (by decide) (by decide) hl hL ?_
  refine lc_call (as := [.inl (h 1000 (i + 1).toNat)]) (S := []) ca_12_44 rfl ob_0 (by decide) (by decide) (Nat.le_of_ble_eq_true rfl) t1 dL_law_400 hk0 hs0 ?_
  intro r h1 hq hr1
  obtain ⟨Q', t2, k2⟩ := k1 r h1 hq
  have e1 : h1 1000 = h 1000 := hr1 1000 (by decide)
  have e4 : h1 1004 = h 1004 := hr1 1004 (by decide)
  refine wt_aload_n (i := 2) rfl dL_law_403 ?_
  refine lc_arg (c := 1) dL_law_404 dL_law_405 dL_law_407 dL_law_408 dL_law_409 hi (by decide) (by decide) (by rw [e4]; exact hl) (by rw [e4]; exact hL) ?_
  rw [e1]
  refine lc_call (as := [.inl (h 1000 (i + 1).toNat)]) (S := [.inl r]) ca_12_47 rfl ob_43 (by decide) (by decide) (Nat.le_of_ble_eq_true rfl) t2 dL_law_410 hk0 hs0 ?_
  intro r' h2 hq' hr2
  obtain ⟨rfl, hI2⟩ := k2 r' h2 hq'
  exact wt_icmp (tgt := 1009) (by decide) dL_law_413 (fun _ => nx h2 hI2 (fun k hk => (hr2 k hk).trans (hr1 k hk))) (fun z => absurd rfl z)
theorem lc_token {mc ms k0 s0 : Nat} {h : HP} {P : Option AV → SH → HP → Prop} {i : Int} (hI : IV h) (hi : 0 ≤ i) (hl : i + 4 ≤ h 1004 0) (hL : h 1004 0 ≤ 2048) (hk0 : k0 ≤ mc) (hs0 : s0 ≤ ms) (nx : NX mc ms k0 s0 h i P) : Wt mLaw_law mc ms k0 s0 418 (LL i) [] SH0 h P := by
  refine Wt.okh fun ok => ?_
  obtain ⟨Q, t1, k1⟩ := p_token hI (h 1000 (i + 1).toNat) (h 1000 (i + 2).toNat)
  refine wt_aload_n (i := 1) rfl dL_law_418 ?_
  refine lc_arg (c := 1) dL_law_419 dL_law_420 dL_law_422 dL_law_423 dL_law_424 hi (by decide) (by decide) hl hL ?_
  refine lc_arg (c := 2) dL_law_425 dL_law_426 dL_law_428 dL_law_429 dL_law_430 hi (by decide) (by decide) hl hL ?_
  refine lc_call (as := [.inl (h 1000 (i + 1).toNat), .inl (h 1000 (i + 2).toNat)]) (S := []) ca_12_48 rfl ob_0 (by decide) (by decide) (Nat.le_of_ble_eq_true rfl) t1 dL_law_431 hk0 hs0 ?_
  intro r h1 hq hr1
  obtain ⟨Q', t2, k2⟩ := k1 r h1 hq
  have e1 : h1 1000 = h 1000 := hr1 1000 (by decide)
  have e4 : h1 1004 = h 1004 := hr1 1004 (by decide)
  refine wt_aload_n (i := 2) rfl dL_law_434 ?_
  refine lc_arg (c := 1) dL_law_435 dL_law_436 dL_law_438 dL_law_439 dL_law_440 hi (by decide) (by decide) (by rw [e4]; exact hl) (by rw [e4]; exact hL) ?_
  rw [e1]
  refine lc_arg (c := 2) dL_law_441 dL_law_442 dL_law_444 dL_law_445 dL_law_446 hi (by decide) (by decide) (by rw [e4]; exact hl) (by rw [e4]; exact hL) ?_
  rw [e1]
  refine lc_call (as := [.inl (h 1000 (i + 1).toNat), .inl (h 1000 (i + 2).toNat)]) (S := [.inl r]) ca_12_51 rfl ob_43 (by decide) (by decide) (Nat.le_of_ble_eq_true rfl) t2 dL_law_447 hk0 hs0 ?_
  intro r' h2 hq' hr2
  obtain ⟨rfl, hI2⟩ := k2 r' h2 hq'
  exact wt_icmp (tgt := 1009) (by decide) dL_law_450 (fun _ => nx h2 hI2 (fun k hk => (hr2 k hk).trans (hr1 k hk))) (fun z => absurd rfl z)
theorem lc_setting {mc ms k0 s0 : Nat} {h : HP} {P : Option AV → SH → HP → Prop} {i : Int} (hI : IV h) (hi : 0 ≤ i) (hl : i + 4 ≤ h 1004 0) (hL : h 1004 0 ≤ 2048) (hk0 : k0 ≤ mc) (hs0 : s0 ≤ ms) (nx : NX mc ms k0 s0 h i P) : Wt mLaw_law mc ms k0 s0 455 (LL i) [] SH0 h P := by
  refine Wt.okh fun ok => ?_
  obtain ⟨Q, t1, k1⟩ := p_setting hI (h 1000 (i + 1).toNat) (h 1000 (i + 2).toNat)
  refine wt_aload_n (i := 1) rfl dL_law_455 ?_
  refine lc_arg (c := 1) dL_law_456 dL_law_457 dL_law_459 dL_law_460 dL_law_461 hi (by decide) (by decide) hl hL ?_
  refine lc_arg (c := 2) dL_law_462 dL_law_463 dL_law_465 dL_law_466 dL_law_467 hi (by decide) (by decide) hl hL ?_
  refine lc_call (as := [.inl (h 1000 (i + 1).toNat), .inl (h 1000 (i + 2).toNat)]) (S := []) ca_12_52 rfl ob_0 (by decide) (by decide) (Nat.le_of_ble_eq_true rfl) t1 dL_law_468 hk0 hs0 ?_
  intro r h1 hq hr1
  obtain ⟨Q', t2, k2⟩ := k1 r h1 hq
  have e1 : h1 1000 = h 1000 := hr1 1000 (by decide)
  have e4 : h1 1004 = h 1004 := hr1 1004 (by decide)
  refine wt_aload_n (i := 2) rfl dL_law_471 ?_
  refine lc_arg (c := 1) dL_law_472 dL_law_473 dL_law_475 dL_law_476 dL_law_477 hi (by decide) (by decide) (by rw [e4]; exact hl) (by rw [e4]; exact hL) ?_
  rw [e1]
  refine lc_arg (c := 2) dL_law_478 dL_law_479 dL_law_481 dL_law_482 dL_law_483 hi (by decide) (by decide) (by rw [e4]; exact hl) (by rw [e4]; exact hL) ?_
  rw [e1]
  refine lc_call (as := [.inl (h 1000 (i + 1).toNat), .inl (h 1000 (i + 2).toNat)]) (S := [.inl r]) ca_12_55 rfl ob_43 (by decide) (by decide) (Nat.le_of_ble_eq_true rfl) t2 dL_law_484 hk0 hs0 ?_
  intro r' h2 hq' hr2
  obtain ⟨rfl, hI2⟩ := k2 r' h2 hq'
  exact wt_icmp (tgt := 1009) (by decide) dL_law_487 (fun _ => nx h2 hI2 (fun k hk => (hr2 k hk).trans (hr1 k hk))) (fun z => absurd rfl z)
theorem lc_near {mc ms k0 s0 : Nat} {h : HP} {P : Option AV → SH → HP → Prop} {i : Int} (hI : IV h) (hi : 0 ≤ i) (hl : i + 4 ≤ h 1004 0) (hL : h 1004 0 ≤ 2048) (hk0 : k0 ≤ mc) (hs0 : s0 ≤ ms) (nx : NX mc ms k0 s0 h i P) : Wt mLaw_law mc ms k0 s0 492 (LL i) [] SH0 h P := by
  refine Wt.okh fun ok => ?_
  obtain ⟨Q, t1, k1⟩ := p_near hI (h 1000 (i + 1).toNat) (h 1000 (i + 2).toNat)
  refine wt_aload_n (i := 1) rfl dL_law_492 ?_
  refine lc_arg (c := 1) dL_law_493 dL_law_494 dL_law_496 dL_law_497 dL_law_498 hi (by decide) (by decide) hl hL ?_
  refine lc_arg (c := 2) dL_law_499 dL_law_500 dL_law_502 dL_law_503 dL_law_504 hi (by decide) (by decide) hl hL ?_
  refine lc_call (as := [.inl (h 1000 (i + 1).toNat), .inl (h 1000 (i + 2).toNat)]) (S := []) ca_12_56 rfl ob_0 (by decide) (by decide) (Nat.le_of_ble_eq_true rfl) t1 dL_law_505 hk0 hs0 ?_
  intro r h1 hq hr1
  obtain ⟨Q', t2, k2⟩ := k1 r h1 hq
  have e1 : h1 1000 = h 1000 := hr1 1000 (by decide)
  have e4 : h1 1004 = h 1004 := hr1 1004 (by decide)
  refine wt_aload_n (i := 2) rfl dL_law_508 ?_
  refine lc_arg (c := 1) dL_law_509 dL_law_510 dL_law_512 dL_law_513 dL_law_514 hi (by decide) (by decide) (by rw [e4]; exact hl) (by rw [e4]; exact hL) ?_
  rw [e1]
  refine lc_arg (c := 2) dL_law_515 dL_law_516 dL_law_518 dL_law_519 dL_law_520 hi (by decide) (by decide) (by rw [e4]; exact hl) (by rw [e4]; exact hL) ?_
  rw [e1]
  refine lc_call (as := [.inl (h 1000 (i + 1).toNat), .inl (h 1000 (i + 2).toNat)]) (S := [.inl r]) ca_12_59 rfl ob_43 (by decide) (by decide) (Nat.le_of_ble_eq_true rfl) t2 dL_law_521 hk0 hs0 ?_
  intro r' h2 hq' hr2
  obtain ⟨rfl, hI2⟩ := k2 r' h2 hq'
  exact wt_icmp (tgt := 1009) (by decide) dL_law_524 (fun _ => nx h2 hI2 (fun k hk => (hr2 k hk).trans (hr1 k hk))) (fun z => absurd rfl z)
theorem lc_line {mc ms k0 s0 : Nat} {h : HP} {P : Option AV → SH → HP → Prop} {i : Int} (hI : IV h) (hi : 0 ≤ i) (hl : i + 4 ≤ h 1004 0) (hL : h 1004 0 ≤ 2048) (hk0 : k0 ≤ mc) (hs0 : s0 ≤ ms) (nx : NX mc ms k0 s0 h i P) : Wt mLaw_law mc ms k0 s0 529 (LL i) [] SH0 h P := by
  refine Wt.okh fun ok => ?_
  obtain ⟨Q, t1, k1⟩ := p_line hI 
  refine wt_aload_n (i := 1) rfl dL_law_529 ?_
  refine lc_call (as := []) (S := []) ca_12_60 rfl ob_0 (by decide) (by decide) (Nat.le_of_ble_eq_true rfl) t1 dL_law_530 hk0 hs0 ?_
  intro r h1 hq hr1
  obtain ⟨Q', t2, k2⟩ := k1 r h1 hq
  refine wt_aload_n (i := 2) rfl dL_law_533 ?_
  refine lc_call (as := []) (S := [.inl r]) ca_12_64 rfl ob_43 (by decide) (by decide) (Nat.le_of_ble_eq_true rfl) t2 dL_law_534 hk0 hs0 ?_
  intro r' h2 hq' hr2
  obtain ⟨rfl, hI2⟩ := k2 r' h2 hq'
  exact wt_icmp (tgt := 1009) (by decide) dL_law_537 (fun _ => nx h2 hI2 (fun k hk => (hr2 k hk).trans (hr1 k hk))) (fun z => absurd rfl z)
theorem lc_at {mc ms k0 s0 : Nat} {h : HP} {P : Option AV → SH → HP → Prop} {i : Int} (hI : IV h) (hi : 0 ≤ i) (hl : i + 4 ≤ h 1004 0) (hL : h 1004 0 ≤ 2048) (hk0 : k0 ≤ mc) (hs0 : s0 ≤ ms) (nx : NX mc ms k0 s0 h i P) : Wt mLaw_law mc ms k0 s0 542 (LL i) [] SH0 h P := by
  refine Wt.okh fun ok => ?_
  obtain ⟨Q, t1, k1⟩ := p_at hI (h 1000 (i + 1).toNat)
  refine wt_aload_n (i := 1) rfl dL_law_542 ?_
  refine lc_arg (c := 1) dL_law_543 dL_law_544 dL_law_546 dL_law_547 dL_law_548 hi (by decide) (by decide) hl hL ?_
  refine lc_call (as := [.inl (h 1000 (i + 1).toNat)]) (S := []) ca_12_65 rfl ob_0 (by decide) (by decide) (Nat.le_of_ble_eq_true rfl) t1 dL_law_549 hk0 hs0 ?_
  intro r h1 hq hr1
  obtain ⟨Q', t2, k2⟩ := k1 r h1 hq
  have e1 : h1 1000 = h 1000 := hr1 1000 (by decide)
  have e4 : h1 1004 = h 1004 := hr1 1004 (by decide)
  refine wt_aload_n (i := 2) rfl dL_law_552 ?_
  refine lc_arg (c := 1) dL_law_553 dL_law_554 dL_law_556 dL_law_557 dL_law_558 hi (by decide) (by decide) (by rw [e4]; exact hl) (by rw [e4]; exact hL) ?_
  rw [e1]
  refine lc_call (as := [.inl (h 1000 (i + 1).toNat)]) (S := [.inl r]) ca_12_68 rfl ob_43 (by decide) (by decide) (Nat.le_of_ble_eq_true rfl) t2 dL_law_559 hk0 hs0 ?_
  intro r' h2 hq' hr2
  obtain ⟨rfl, hI2⟩ := k2 r' h2 hq'
  exact wt_icmp (tgt := 1009) (by decide) dL_law_562 (fun _ => nx h2 hI2 (fun k hk => (hr2 k hk).trans (hr1 k hk))) (fun z => absurd rfl z)
theorem lc_typed {mc ms k0 s0 : Nat} {h : HP} {P : Option AV → SH → HP → Prop} {i : Int} (hI : IV h) (hi : 0 ≤ i) (hl : i + 4 ≤ h 1004 0) (hL : h 1004 0 ≤ 2048) (hk0 : k0 ≤ mc) (hs0 : s0 ≤ ms) (nx : NX mc ms k0 s0 h i P) : Wt mLaw_law mc ms k0 s0 567 (LL i) [] SH0 h P := by
  refine Wt.okh fun ok => ?_
  obtain ⟨Q, t1, k1⟩ := p_typed hI (h 1000 (i + 1).toNat) (h 1000 (i + 2).toNat)
  refine wt_aload_n (i := 1) rfl dL_law_567 ?_
  refine lc_arg (c := 1) dL_law_568 dL_law_569 dL_law_571 dL_law_572 dL_law_573 hi (by decide) (by decide) hl hL ?_
  refine lc_arg (c := 2) dL_law_574 dL_law_575 dL_law_577 dL_law_578 dL_law_579 hi (by decide) (by decide) hl hL ?_
  refine lc_call (as := [.inl (h 1000 (i + 1).toNat), .inl (h 1000 (i + 2).toNat)]) (S := []) ca_12_69 rfl ob_0 (by decide) (by decide) (Nat.le_of_ble_eq_true rfl) t1 dL_law_580 hk0 hs0 ?_
  intro r h1 hq hr1
  obtain ⟨Q', t2, k2⟩ := k1 r h1 hq
  have e1 : h1 1000 = h 1000 := hr1 1000 (by decide)
  have e4 : h1 1004 = h 1004 := hr1 1004 (by decide)
  refine wt_aload_n (i := 2) rfl dL_law_583 ?_
  refine lc_arg (c := 1) dL_law_584 dL_law_585 dL_law_587 dL_law_588 dL_law_589 hi (by decide) (by decide) (by rw [e4]; exact hl) (by rw [e4]; exact hL) ?_
  rw [e1]
  refine lc_arg (c := 2) dL_law_590 dL_law_591 dL_law_593 dL_law_594 dL_law_595 hi (by decide) (by decide) (by rw [e4]; exact hl) (by rw [e4]; exact hL) ?_
  rw [e1]
  refine lc_call (as := [.inl (h 1000 (i + 1).toNat), .inl (h 1000 (i + 2).toNat)]) (S := [.inl r]) ca_12_72 rfl ob_43 (by decide) (by decide) (Nat.le_of_ble_eq_true rfl) t2 dL_law_596 hk0 hs0 ?_
  intro r' h2 hq' hr2
  obtain ⟨rfl, hI2⟩ := k2 r' h2 hq'
  exact wt_icmp (tgt := 1009) (by decide) dL_law_599 (fun _ => nx h2 hI2 (fun k hk => (hr2 k hk).trans (hr1 k hk))) (fun z => absurd rfl z)
theorem lc_look {mc ms k0 s0 : Nat} {h : HP} {P : Option AV → SH → HP → Prop} {i : Int} (hI : IV h) (hi : 0 ≤ i) (hl : i + 4 ≤ h 1004 0) (hL : h 1004 0 ≤ 2048) (hk0 : k0 ≤ mc) (hs0 : s0 ≤ ms) (nx : NX mc ms k0 s0 h i P) : Wt mLaw_law mc ms k0 s0 604 (LL i) [] SH0 h P := by
  refine Wt.okh fun ok => ?_
  obtain ⟨Q, t1, k1⟩ := p_look hI 
  refine wt_aload_n (i := 1) rfl dL_law_604 ?_
  refine lc_call (as := []) (S := []) ca_12_73 rfl ob_0 (by decide) (by decide) (Nat.le_of_ble_eq_true rfl) t1 dL_law_605 hk0 hs0 ?_
  intro r h1 hq hr1
  obtain ⟨Q', t2, k2⟩ := k1 r h1 hq
  refine wt_aload_n (i := 2) rfl dL_law_608 ?_
  refine lc_call (as := []) (S := [.inl r]) ca_12_76 rfl ob_43 (by decide) (by decide) (Nat.le_of_ble_eq_true rfl) t2 dL_law_609 hk0 hs0 ?_
  intro r' h2 hq' hr2
  obtain ⟨rfl, hI2⟩ := k2 r' h2 hq'
  exact wt_icmp (tgt := 1009) (by decide) dL_law_612 (fun _ => nx h2 hI2 (fun k hk => (hr2 k hk).trans (hr1 k hk))) (fun z => absurd rfl z)
theorem lc_told {mc ms k0 s0 : Nat} {h : HP} {P : Option AV → SH → HP → Prop} {i : Int} (hI : IV h) (hi : 0 ≤ i) (hl : i + 4 ≤ h 1004 0) (hL : h 1004 0 ≤ 2048) (hk0 : k0 ≤ mc) (hs0 : s0 ≤ ms) (nx : NX mc ms k0 s0 h i P) : Wt mLaw_law mc ms k0 s0 617 (LL i) [] SH0 h P := by
  refine Wt.okh fun ok => ?_
  obtain ⟨Q, t1, k1⟩ := p_told hI (h 1000 (i + 1).toNat)
  refine wt_aload_n (i := 1) rfl dL_law_617 ?_
  refine lc_arg (c := 1) dL_law_618 dL_law_619 dL_law_621 dL_law_622 dL_law_623 hi (by decide) (by decide) hl hL ?_
  refine lc_call (as := [.inl (h 1000 (i + 1).toNat)]) (S := []) ca_12_77 rfl ob_0 (by decide) (by decide) (Nat.le_of_ble_eq_true rfl) t1 dL_law_624 hk0 hs0 ?_
  intro r h1 hq hr1
  obtain ⟨Q', t2, k2⟩ := k1 r h1 hq
  have e1 : h1 1000 = h 1000 := hr1 1000 (by decide)
  have e4 : h1 1004 = h 1004 := hr1 1004 (by decide)
  refine wt_aload_n (i := 2) rfl dL_law_627 ?_
  refine lc_arg (c := 1) dL_law_628 dL_law_629 dL_law_631 dL_law_632 dL_law_633 hi (by decide) (by decide) (by rw [e4]; exact hl) (by rw [e4]; exact hL) ?_
  rw [e1]
  refine lc_call (as := [.inl (h 1000 (i + 1).toNat)]) (S := [.inl r]) ca_12_80 rfl ob_43 (by decide) (by decide) (Nat.le_of_ble_eq_true rfl) t2 dL_law_634 hk0 hs0 ?_
  intro r' h2 hq' hr2
  obtain ⟨rfl, hI2⟩ := k2 r' h2 hq'
  exact wt_icmp (tgt := 1009) (by decide) dL_law_637 (fun _ => nx h2 hI2 (fun k hk => (hr2 k hk).trans (hr1 k hk))) (fun z => absurd rfl z)
theorem lc_proposal {mc ms k0 s0 : Nat} {h : HP} {P : Option AV → SH → HP → Prop} {i : Int} (hI : IV h) (hi : 0 ≤ i) (hl : i + 4 ≤ h 1004 0) (hL : h 1004 0 ≤ 2048) (hk0 : k0 ≤ mc) (hs0 : s0 ≤ ms) (nx : NX mc ms k0 s0 h i P) : Wt mLaw_law mc ms k0 s0 642 (LL i) [] SH0 h P := by
  refine Wt.okh fun ok => ?_
  obtain ⟨Q, t1, k1⟩ := p_proposal hI (h 1000 (i + 1).toNat) (h 1000 (i + 2).toNat)
  refine wt_aload_n (i := 1) rfl dL_law_642 ?_
  refine lc_arg (c := 1) dL_law_643 dL_law_644 dL_law_646 dL_law_647 dL_law_648 hi (by decide) (by decide) hl hL ?_
  refine lc_arg (c := 2) dL_law_649 dL_law_650 dL_law_652 dL_law_653 dL_law_654 hi (by decide) (by decide) hl hL ?_
  refine lc_call (as := [.inl (h 1000 (i + 1).toNat), .inl (h 1000 (i + 2).toNat)]) (S := []) ca_12_81 rfl ob_0 (by decide) (by decide) (Nat.le_of_ble_eq_true rfl) t1 dL_law_655 hk0 hs0 ?_
  intro r h1 hq hr1
  obtain ⟨Q', t2, k2⟩ := k1 r h1 hq
  have e1 : h1 1000 = h 1000 := hr1 1000 (by decide)
  have e4 : h1 1004 = h 1004 := hr1 1004 (by decide)
  refine wt_aload_n (i := 2) rfl dL_law_658 ?_
  refine lc_arg (c := 1) dL_law_659 dL_law_660 dL_law_662 dL_law_663 dL_law_664 hi (by decide) (by decide) (by rw [e4]; exact hl) (by rw [e4]; exact hL) ?_
  rw [e1]
  refine lc_arg (c := 2) dL_law_665 dL_law_666 dL_law_668 dL_law_669 dL_law_670 hi (by decide) (by decide) (by rw [e4]; exact hl) (by rw [e4]; exact hL) ?_
  rw [e1]
  refine lc_call (as := [.inl (h 1000 (i + 1).toNat), .inl (h 1000 (i + 2).toNat)]) (S := [.inl r]) ca_12_84 rfl ob_43 (by decide) (by decide) (Nat.le_of_ble_eq_true rfl) t2 dL_law_671 hk0 hs0 ?_
  intro r' h2 hq' hr2
  obtain ⟨rfl, hI2⟩ := k2 r' h2 hq'
  exact wt_icmp (tgt := 1009) (by decide) dL_law_674 (fun _ => nx h2 hI2 (fun k hk => (hr2 k hk).trans (hr1 k hk))) (fun z => absurd rfl z)
theorem lc_fix {mc ms k0 s0 : Nat} {h : HP} {P : Option AV → SH → HP → Prop} {i : Int} (hI : IV h) (hi : 0 ≤ i) (hl : i + 4 ≤ h 1004 0) (hL : h 1004 0 ≤ 2048) (hk0 : k0 ≤ mc) (hs0 : s0 ≤ ms) (nx : NX mc ms k0 s0 h i P) : Wt mLaw_law mc ms k0 s0 679 (LL i) [] SH0 h P := by
  refine Wt.okh fun ok => ?_
  obtain ⟨Q, t1, k1⟩ := p_fix hI 
  refine wt_aload_n (i := 1) rfl dL_law_679 ?_
  refine lc_call (as := []) (S := []) ca_12_85 rfl ob_0 (by decide) (by decide) (Nat.le_of_ble_eq_true rfl) t1 dL_law_680 hk0 hs0 ?_
  intro r h1 hq hr1
  obtain ⟨Q', t2, k2⟩ := k1 r h1 hq
  refine wt_aload_n (i := 2) rfl dL_law_683 ?_
  refine lc_call (as := []) (S := [.inl r]) ca_12_88 rfl ob_43 (by decide) (by decide) (Nat.le_of_ble_eq_true rfl) t2 dL_law_684 hk0 hs0 ?_
  intro r' h2 hq' hr2
  obtain ⟨rfl, hI2⟩ := k2 r' h2 hq'
  exact wt_icmp (tgt := 1009) (by decide) dL_law_687 (fun _ => nx h2 hI2 (fun k hk => (hr2 k hk).trans (hr1 k hk))) (fun z => absurd rfl z)
theorem lc_choose {mc ms k0 s0 : Nat} {h : HP} {P : Option AV → SH → HP → Prop} {i : Int} (hI : IV h) (hi : 0 ≤ i) (hl : i + 4 ≤ h 1004 0) (hL : h 1004 0 ≤ 2048) (hk0 : k0 ≤ mc) (hs0 : s0 ≤ ms) (nx : NX mc ms k0 s0 h i P) : Wt mLaw_law mc ms k0 s0 692 (LL i) [] SH0 h P := by
  refine Wt.okh fun ok => ?_
  obtain ⟨Q, t1, k1⟩ := p_choose hI (h 1000 (i + 1).toNat)
  refine wt_aload_n (i := 1) rfl dL_law_692 ?_
  refine lc_arg (c := 1) dL_law_693 dL_law_694 dL_law_696 dL_law_697 dL_law_698 hi (by decide) (by decide) hl hL ?_
  refine lc_call (as := [.inl (h 1000 (i + 1).toNat)]) (S := []) ca_12_89 rfl ob_0 (by decide) (by decide) (Nat.le_of_ble_eq_true rfl) t1 dL_law_699 hk0 hs0 ?_
  intro r h1 hq hr1
  obtain ⟨Q', t2, k2⟩ := k1 r h1 hq
  have e1 : h1 1000 = h 1000 := hr1 1000 (by decide)
  have e4 : h1 1004 = h 1004 := hr1 1004 (by decide)
  refine wt_aload_n (i := 2) rfl dL_law_702 ?_
  refine lc_arg (c := 1) dL_law_703 dL_law_704 dL_law_706 dL_law_707 dL_law_708 hi (by decide) (by decide) (by rw [e4]; exact hl) (by rw [e4]; exact hL) ?_
  rw [e1]
  refine lc_call (as := [.inl (h 1000 (i + 1).toNat)]) (S := [.inl r]) ca_12_92 rfl ob_43 (by decide) (by decide) (Nat.le_of_ble_eq_true rfl) t2 dL_law_709 hk0 hs0 ?_
  intro r' h2 hq' hr2
  obtain ⟨rfl, hI2⟩ := k2 r' h2 hq'
  exact wt_icmp (tgt := 1009) (by decide) dL_law_712 (fun _ => nx h2 hI2 (fun k hk => (hr2 k hk).trans (hr1 k hk))) (fun z => absurd rfl z)
theorem lc_missing {mc ms k0 s0 : Nat} {h : HP} {P : Option AV → SH → HP → Prop} {i : Int} (hI : IV h) (hi : 0 ≤ i) (hl : i + 4 ≤ h 1004 0) (hL : h 1004 0 ≤ 2048) (hk0 : k0 ≤ mc) (hs0 : s0 ≤ ms) (nx : NX mc ms k0 s0 h i P) : Wt mLaw_law mc ms k0 s0 717 (LL i) [] SH0 h P := by
  refine Wt.okh fun ok => ?_
  obtain ⟨Q, t1, k1⟩ := p_missing hI (h 1000 (i + 1).toNat)
  refine wt_aload_n (i := 1) rfl dL_law_717 ?_
  refine lc_arg (c := 1) dL_law_718 dL_law_719 dL_law_721 dL_law_722 dL_law_723 hi (by decide) (by decide) hl hL ?_
  refine lc_call (as := [.inl (h 1000 (i + 1).toNat)]) (S := []) ca_12_93 rfl ob_0 (by decide) (by decide) (Nat.le_of_ble_eq_true rfl) t1 dL_law_724 hk0 hs0 ?_
  intro r h1 hq hr1
  obtain ⟨Q', t2, k2⟩ := k1 r h1 hq
  have e1 : h1 1000 = h 1000 := hr1 1000 (by decide)
  have e4 : h1 1004 = h 1004 := hr1 1004 (by decide)
  refine wt_aload_n (i := 2) rfl dL_law_727 ?_
  refine lc_arg (c := 1) dL_law_728 dL_law_729 dL_law_731 dL_law_732 dL_law_733 hi (by decide) (by decide) (by rw [e4]; exact hl) (by rw [e4]; exact hL) ?_
  rw [e1]
  refine lc_call (as := [.inl (h 1000 (i + 1).toNat)]) (S := [.inl r]) ca_12_96 rfl ob_43 (by decide) (by decide) (Nat.le_of_ble_eq_true rfl) t2 dL_law_734 hk0 hs0 ?_
  intro r' h2 hq' hr2
  obtain ⟨rfl, hI2⟩ := k2 r' h2 hq'
  exact wt_icmp (tgt := 1009) (by decide) dL_law_737 (fun _ => nx h2 hI2 (fun k hk => (hr2 k hk).trans (hr1 k hk))) (fun z => absurd rfl z)
theorem lc_hint {mc ms k0 s0 : Nat} {h : HP} {P : Option AV → SH → HP → Prop} {i : Int} (hI : IV h) (hi : 0 ≤ i) (hl : i + 4 ≤ h 1004 0) (hL : h 1004 0 ≤ 2048) (hk0 : k0 ≤ mc) (hs0 : s0 ≤ ms) (nx : NX mc ms k0 s0 h i P) : Wt mLaw_law mc ms k0 s0 742 (LL i) [] SH0 h P := by
  refine Wt.okh fun ok => ?_
  obtain ⟨Q, t1, k1⟩ := p_hint hI (h 1000 (i + 1).toNat)
  refine wt_aload_n (i := 1) rfl dL_law_742 ?_
  refine lc_arg (c := 1) dL_law_743 dL_law_744 dL_law_746 dL_law_747 dL_law_748 hi (by decide) (by decide) hl hL ?_
  refine lc_call (as := [.inl (h 1000 (i + 1).toNat)]) (S := []) ca_12_97 rfl ob_0 (by decide) (by decide) (Nat.le_of_ble_eq_true rfl) t1 dL_law_749 hk0 hs0 ?_
  intro r h1 hq hr1
  obtain ⟨Q', t2, k2⟩ := k1 r h1 hq
  have e1 : h1 1000 = h 1000 := hr1 1000 (by decide)
  have e4 : h1 1004 = h 1004 := hr1 1004 (by decide)
  refine wt_aload_n (i := 2) rfl dL_law_752 ?_
  refine lc_arg (c := 1) dL_law_753 dL_law_754 dL_law_756 dL_law_757 dL_law_758 hi (by decide) (by decide) (by rw [e4]; exact hl) (by rw [e4]; exact hL) ?_
  rw [e1]
  refine lc_call (as := [.inl (h 1000 (i + 1).toNat)]) (S := [.inl r]) ca_12_100 rfl ob_43 (by decide) (by decide) (Nat.le_of_ble_eq_true rfl) t2 dL_law_759 hk0 hs0 ?_
  intro r' h2 hq' hr2
  obtain ⟨rfl, hI2⟩ := k2 r' h2 hq'
  exact wt_icmp (tgt := 1009) (by decide) dL_law_762 (fun _ => nx h2 hI2 (fun k hk => (hr2 k hk).trans (hr1 k hk))) (fun z => absurd rfl z)
theorem lc_verbs {mc ms k0 s0 : Nat} {h : HP} {P : Option AV → SH → HP → Prop} {i : Int} (hI : IV h) (hi : 0 ≤ i) (hl : i + 4 ≤ h 1004 0) (hL : h 1004 0 ≤ 2048) (hk0 : k0 ≤ mc) (hs0 : s0 ≤ ms) (nx : NX mc ms k0 s0 h i P) : Wt mLaw_law mc ms k0 s0 767 (LL i) [] SH0 h P := by
  refine Wt.okh fun ok => ?_
  obtain ⟨Q, t1, k1⟩ := p_verbs hI (h 1000 (i + 1).toNat) (h 1000 (i + 2).toNat)
  refine wt_aload_n (i := 1) rfl dL_law_767 ?_
  refine lc_arg (c := 1) dL_law_768 dL_law_769 dL_law_771 dL_law_772 dL_law_773 hi (by decide) (by decide) hl hL ?_
  refine lc_arg (c := 2) dL_law_774 dL_law_775 dL_law_777 dL_law_778 dL_law_779 hi (by decide) (by decide) hl hL ?_
  refine lc_call (as := [.inl (h 1000 (i + 1).toNat), .inl (h 1000 (i + 2).toNat)]) (S := []) ca_12_101 rfl ob_0 (by decide) (by decide) (Nat.le_of_ble_eq_true rfl) t1 dL_law_780 hk0 hs0 ?_
  intro r h1 hq hr1
  obtain ⟨Q', t2, k2⟩ := k1 r h1 hq
  have e1 : h1 1000 = h 1000 := hr1 1000 (by decide)
  have e4 : h1 1004 = h 1004 := hr1 1004 (by decide)
  refine wt_aload_n (i := 2) rfl dL_law_783 ?_
  refine lc_arg (c := 1) dL_law_784 dL_law_785 dL_law_787 dL_law_788 dL_law_789 hi (by decide) (by decide) (by rw [e4]; exact hl) (by rw [e4]; exact hL) ?_
  rw [e1]
  refine lc_arg (c := 2) dL_law_790 dL_law_791 dL_law_793 dL_law_794 dL_law_795 hi (by decide) (by decide) (by rw [e4]; exact hl) (by rw [e4]; exact hL) ?_
  rw [e1]
  refine lc_call (as := [.inl (h 1000 (i + 1).toNat), .inl (h 1000 (i + 2).toNat)]) (S := [.inl r]) ca_12_104 rfl ob_43 (by decide) (by decide) (Nat.le_of_ble_eq_true rfl) t2 dL_law_796 hk0 hs0 ?_
  intro r' h2 hq' hr2
  obtain ⟨rfl, hI2⟩ := k2 r' h2 hq'
  exact wt_icmp (tgt := 1009) (by decide) dL_law_799 (fun _ => nx h2 hI2 (fun k hk => (hr2 k hk).trans (hr1 k hk))) (fun z => absurd rfl z)
theorem lc_edits {mc ms k0 s0 : Nat} {h : HP} {P : Option AV → SH → HP → Prop} {i : Int} (hI : IV h) (hi : 0 ≤ i) (hl : i + 4 ≤ h 1004 0) (hL : h 1004 0 ≤ 2048) (hk0 : k0 ≤ mc) (hs0 : s0 ≤ ms) (nx : NX mc ms k0 s0 h i P) : Wt mLaw_law mc ms k0 s0 804 (LL i) [] SH0 h P := by
  refine Wt.okh fun ok => ?_
  obtain ⟨Q, t1, k1⟩ := p_edits hI (h 1000 (i + 1).toNat) (h 1000 (i + 2).toNat)
  refine wt_aload_n (i := 1) rfl dL_law_804 ?_
  refine lc_arg (c := 1) dL_law_805 dL_law_806 dL_law_808 dL_law_809 dL_law_810 hi (by decide) (by decide) hl hL ?_
  refine lc_arg (c := 2) dL_law_811 dL_law_812 dL_law_814 dL_law_815 dL_law_816 hi (by decide) (by decide) hl hL ?_
  refine lc_call (as := [.inl (h 1000 (i + 1).toNat), .inl (h 1000 (i + 2).toNat)]) (S := []) ca_12_105 rfl ob_0 (by decide) (by decide) (Nat.le_of_ble_eq_true rfl) t1 dL_law_817 hk0 hs0 ?_
  intro r h1 hq hr1
  obtain ⟨Q', t2, k2⟩ := k1 r h1 hq
  have e1 : h1 1000 = h 1000 := hr1 1000 (by decide)
  have e4 : h1 1004 = h 1004 := hr1 1004 (by decide)
  refine wt_aload_n (i := 2) rfl dL_law_820 ?_
  refine lc_arg (c := 1) dL_law_821 dL_law_822 dL_law_824 dL_law_825 dL_law_826 hi (by decide) (by decide) (by rw [e4]; exact hl) (by rw [e4]; exact hL) ?_
  rw [e1]
  refine lc_arg (c := 2) dL_law_827 dL_law_828 dL_law_830 dL_law_831 dL_law_832 hi (by decide) (by decide) (by rw [e4]; exact hl) (by rw [e4]; exact hL) ?_
  rw [e1]
  refine lc_call (as := [.inl (h 1000 (i + 1).toNat), .inl (h 1000 (i + 2).toNat)]) (S := [.inl r]) ca_12_108 rfl ob_43 (by decide) (by decide) (Nat.le_of_ble_eq_true rfl) t2 dL_law_833 hk0 hs0 ?_
  intro r' h2 hq' hr2
  obtain ⟨rfl, hI2⟩ := k2 r' h2 hq'
  exact wt_icmp (tgt := 1009) (by decide) dL_law_836 (fun _ => nx h2 hI2 (fun k hk => (hr2 k hk).trans (hr1 k hk))) (fun z => absurd rfl z)
theorem lc_forward {mc ms k0 s0 : Nat} {h : HP} {P : Option AV → SH → HP → Prop} {i : Int} (hI : IV h) (hi : 0 ≤ i) (hl : i + 4 ≤ h 1004 0) (hL : h 1004 0 ≤ 2048) (hk0 : k0 ≤ mc) (hs0 : s0 ≤ ms) (nx : NX mc ms k0 s0 h i P) : Wt mLaw_law mc ms k0 s0 909 (LL i) [] SH0 h P := by
  refine Wt.okh fun ok => ?_
  obtain ⟨Q, t1, k1⟩ := p_forward hI 
  refine wt_aload_n (i := 1) rfl dL_law_909 ?_
  refine lc_call (as := []) (S := []) ca_12_118 rfl ob_0 (by decide) (by decide) (Nat.le_of_ble_eq_true rfl) t1 dL_law_910 hk0 hs0 ?_
  intro r h1 hq hr1
  obtain ⟨Q', t2, k2⟩ := k1 r h1 hq
  refine wt_aload_n (i := 2) rfl dL_law_913 ?_
  refine lc_call (as := []) (S := [.inl r]) ca_12_121 rfl ob_43 (by decide) (by decide) (Nat.le_of_ble_eq_true rfl) t2 dL_law_914 hk0 hs0 ?_
  intro r' h2 hq' hr2
  obtain ⟨rfl, hI2⟩ := k2 r' h2 hq'
  exact wt_icmp (tgt := 1009) (by decide) dL_law_917 (fun _ => nx h2 hI2 (fun k hk => (hr2 k hk).trans (hr1 k hk))) (fun z => absurd rfl z)
theorem lc_pair {mc ms k0 s0 : Nat} {h : HP} {P : Option AV → SH → HP → Prop} {i : Int} (hI : IV h) (hi : 0 ≤ i) (hl : i + 4 ≤ h 1004 0) (hL : h 1004 0 ≤ 2048) (hk0 : k0 ≤ mc) (hs0 : s0 ≤ ms) (nx : NX mc ms k0 s0 h i P) : Wt mLaw_law mc ms k0 s0 922 (LL i) [] SH0 h P := by
  refine Wt.okh fun ok => ?_
  obtain ⟨Q, t1, k1⟩ := p_pair hI (h 1000 (i + 1).toNat) (h 1000 (i + 2).toNat) (ok _ _)
  refine wt_aload_n (i := 1) rfl dL_law_922 ?_
  refine lc_arg (c := 1) dL_law_923 dL_law_924 dL_law_926 dL_law_927 dL_law_928 hi (by decide) (by decide) hl hL ?_
  refine lc_arg (c := 2) dL_law_929 dL_law_930 dL_law_932 dL_law_933 dL_law_934 hi (by decide) (by decide) hl hL ?_
  refine lc_call (as := [.inl (h 1000 (i + 1).toNat), .inl (h 1000 (i + 2).toNat)]) (S := []) ca_12_122 rfl ob_0 (by decide) (by decide) (Nat.le_of_ble_eq_true rfl) t1 dL_law_935 hk0 hs0 ?_
  intro r h1 hq hr1
  obtain ⟨Q', t2, k2⟩ := k1 r h1 hq
  have e1 : h1 1000 = h 1000 := hr1 1000 (by decide)
  have e4 : h1 1004 = h 1004 := hr1 1004 (by decide)
  refine wt_aload_n (i := 2) rfl dL_law_938 ?_
  refine lc_arg (c := 1) dL_law_939 dL_law_940 dL_law_942 dL_law_943 dL_law_944 hi (by decide) (by decide) (by rw [e4]; exact hl) (by rw [e4]; exact hL) ?_
  rw [e1]
  refine lc_arg (c := 2) dL_law_945 dL_law_946 dL_law_948 dL_law_949 dL_law_950 hi (by decide) (by decide) (by rw [e4]; exact hl) (by rw [e4]; exact hL) ?_
  rw [e1]
  refine lc_call (as := [.inl (h 1000 (i + 1).toNat), .inl (h 1000 (i + 2).toNat)]) (S := [.inl r]) ca_12_125 rfl ob_43 (by decide) (by decide) (Nat.le_of_ble_eq_true rfl) t2 dL_law_951 hk0 hs0 ?_
  intro r' h2 hq' hr2
  obtain ⟨rfl, hI2⟩ := k2 r' h2 hq'
  exact wt_icmp (tgt := 1009) (by decide) dL_law_954 (fun _ => nx h2 hI2 (fun k hk => (hr2 k hk).trans (hr1 k hk))) (fun z => absurd rfl z)
theorem lc_learn {mc ms k0 s0 : Nat} {h : HP} {P : Option AV → SH → HP → Prop} {i : Int} (hI : IV h) (hi : 0 ≤ i) (hl : i + 4 ≤ h 1004 0) (hL : h 1004 0 ≤ 2048) (hk0 : k0 ≤ mc) (hs0 : s0 ≤ ms) (nx : NX mc ms k0 s0 h i P) : Wt mLaw_law mc ms k0 s0 959 (LL i) [] SH0 h P := by
  refine Wt.okh fun ok => ?_
  obtain ⟨Q, t1, k1⟩ := p_learn hI (h 1000 (i + 1).toNat)
  refine wt_aload_n (i := 1) rfl dL_law_959 ?_
  refine lc_arg (c := 1) dL_law_960 dL_law_961 dL_law_963 dL_law_964 dL_law_965 hi (by decide) (by decide) hl hL ?_
  refine lc_call (as := [.inl (h 1000 (i + 1).toNat)]) (S := []) ca_12_126 rfl ob_0 (by decide) (by decide) (Nat.le_of_ble_eq_true rfl) t1 dL_law_966 hk0 hs0 ?_
  intro r h1 hq hr1
  obtain ⟨Q', t2, k2⟩ := k1 r h1 hq
  have e1 : h1 1000 = h 1000 := hr1 1000 (by decide)
  have e4 : h1 1004 = h 1004 := hr1 1004 (by decide)
  refine wt_aload_n (i := 2) rfl dL_law_969 ?_
  refine lc_arg (c := 1) dL_law_970 dL_law_971 dL_law_973 dL_law_974 dL_law_975 hi (by decide) (by decide) (by rw [e4]; exact hl) (by rw [e4]; exact hL) ?_
  rw [e1]
  refine lc_call (as := [.inl (h 1000 (i + 1).toNat)]) (S := [.inl r]) ca_12_129 rfl ob_43 (by decide) (by decide) (Nat.le_of_ble_eq_true rfl) t2 dL_law_976 hk0 hs0 ?_
  intro r' h2 hq' hr2
  obtain ⟨rfl, hI2⟩ := k2 r' h2 hq'
  exact wt_icmp (tgt := 1009) (by decide) dL_law_979 (fun _ => nx h2 hI2 (fun k hk => (hr2 k hk).trans (hr1 k hk))) (fun z => absurd rfl z)
theorem lc_count {mc ms k0 s0 : Nat} {h : HP} {P : Option AV → SH → HP → Prop} {i : Int} (hI : IV h) (hi : 0 ≤ i) (hl : i + 4 ≤ h 1004 0) (hL : h 1004 0 ≤ 2048) (hk0 : k0 ≤ mc) (hs0 : s0 ≤ ms) (nx : NX mc ms k0 s0 h i P) : Wt mLaw_law mc ms k0 s0 984 (LL i) [] SH0 h P := by
  refine Wt.okh fun ok => ?_
  obtain ⟨Q, t1, k1⟩ := p_count hI (h 1000 (i + 1).toNat)
  refine wt_aload_n (i := 1) rfl dL_law_984 ?_
  refine lc_arg (c := 1) dL_law_985 dL_law_986 dL_law_988 dL_law_989 dL_law_990 hi (by decide) (by decide) hl hL ?_
  refine lc_call (as := [.inl (h 1000 (i + 1).toNat)]) (S := []) ca_12_130 rfl ob_0 (by decide) (by decide) (Nat.le_of_ble_eq_true rfl) t1 dL_law_991 hk0 hs0 ?_
  intro r h1 hq hr1
  obtain ⟨Q', t2, k2⟩ := k1 r h1 hq
  have e1 : h1 1000 = h 1000 := hr1 1000 (by decide)
  have e4 : h1 1004 = h 1004 := hr1 1004 (by decide)
  refine wt_aload_n (i := 2) rfl dL_law_994 ?_
  refine lc_arg (c := 1) dL_law_995 dL_law_996 dL_law_998 dL_law_999 dL_law_1000 hi (by decide) (by decide) (by rw [e4]; exact hl) (by rw [e4]; exact hL) ?_
  rw [e1]
  refine lc_call (as := [.inl (h 1000 (i + 1).toNat)]) (S := [.inl r]) ca_12_133 rfl ob_43 (by decide) (by decide) (Nat.le_of_ble_eq_true rfl) t2 dL_law_1001 hk0 hs0 ?_
  intro r' h2 hq' hr2
  obtain ⟨rfl, hI2⟩ := k2 r' h2 hq'
  exact wt_icmp (tgt := 1009) (by decide) dL_law_1004 (fun _ => nx h2 hI2 (fun k hk => (hr2 k hk).trans (hr1 k hk))) (fun z => absurd rfl z)
theorem law_step {P : Option AV → SH → HP → Prop} (hc : LCell P) (hP : ∀ sh h, P (some (.inl 1)) sh h) {h : HP} {i : Int} {k0 s0 : Nat} (hI : IV h) (hi : 0 ≤ i) (h0 : 0 ≤ h 1004 0) (hL : h 1004 0 ≤ 2048) (hi2 : i ≤ 2048) (hk : 4 * (k0 : Int) ≤ 312 + i) (hs : 4 * (s0 : Int) ≤ 53384 + 6 * i)
    (nx : i + 4 ≤ h 1004 0 → ∀ (h' : HP) (k0' s0' : Nat), IV h' → h' 1004 0 = h 1004 0 → 4 * (k0' : Int) ≤ 312 + (i + 4) → 4 * (s0' : Int) ≤ 53384 + 6 * (i + 4) → Wt mLaw_law 600 20000 k0' s0' 23 (LL (i + 4)) [] SH0 h' P) : Wt mLaw_law 600 20000 k0 s0 23 (LL i) [] SH0 h P := by
  refine wt_iload (x := i) rfl dL_law_23 ?_
  refine wt_aload_n (i := 0) (x := 1000) rfl dL_law_25 ?_
  refine wt_alenX h0 dL_law_26 ?_
  refine wt_iconst ⟨by decide, by decide⟩ dL_law_27 ?_
  refine wt_isub dL_law_28 ?_
  rw [wr_id (by omega) (by omega)]
  refine wt_icmp (tgt := 1015) (by decide) dL_law_29 (fun _ => ?_) (fun z => ?_)
  · refine wt_iconst ⟨by decide, by decide⟩ dL_law_1015 ?_
    exact wt_ireturn (Or.inr ⟨rfl, Or.inr rfl⟩) dL_law_1016 (hP _ _)
  have hl : i + 4 ≤ h 1004 0 := by
    have z : ¬ h 1004 0 - 4 < i := z
    omega
  have n9 : ∀ k0' s0' : Nat, 4 * (k0' : Int) ≤ 312 + (i + 4) → 4 * (s0' : Int) ≤ 53384 + 6 * (i + 4) → NX 600 20000 k0' s0' h i P := by
    intro k0' s0' b1 b2 h' hI' hr
    refine wt_iinc (i := 4) (x := i) rfl (by decide) (show okSt (LL i) 4 from trivial) dL_law_1009 ?_
    rw [wr_id (by omega) (by omega)]
    refine wt_goto (tgt := 23) (by decide) dL_law_1012 ?_
    exact nx hl h' k0' s0' hI' (by rw [hr 1004 (by decide)]) b1 b2
  refine wt_aload_n (i := 0) (x := 1000) rfl dL_law_32 ?_
  refine wt_iload (x := i) rfl dL_law_33 ?_
  refine wt_ialoadX hi (by omega) dL_law_35 ?_
  refine wt_bipush (by decide) (by decide) dL_law_36 ?_
  refine wt_iand dL_law_38 ?_
  generalize band (h 1000 i.toNat) 31 = x
  have n1 := n9 k0 s0 (by omega) (by omega)
  have bk : k0 ≤ 600 := by omega
  have bs : s0 ≤ 20000 := by omega
  have hx : (x < 0 ∨ 25 < x) ∨ x = 0 ∨ x = 1 ∨ x = 2 ∨ x = 3 ∨ x = 4 ∨ x = 5 ∨ x = 6 ∨ x = 7 ∨ x = 8 ∨ x = 9 ∨ x = 10 ∨ x = 11 ∨ x = 12 ∨ x = 13 ∨ x = 14 ∨ x = 15 ∨ x = 16 ∨ x = 17 ∨ x = 18 ∨ x = 19 ∨ x = 20 ∨ x = 21 ∨ x = 22 ∨ x = 23 ∨ x = 24 ∨ x = 25 := by omega
  rcases hx with hx | rfl | rfl | rfl | rfl | rfl | rfl | rfl | rfl | rfl | rfl | rfl | rfl | rfl | rfl | rfl | rfl | rfl | rfl | rfl | rfl | rfl | rfl | rfl | rfl | rfl | rfl
  · refine wt_table (tgt := 1009) dL_law_39 (by rw [if_pos hx]; rfl) (fun z => absurd hx z) ?_
    exact n1 h hI (fun _ _ => rfl)
  · exact wt_table (tgt := 156) dL_law_39 (by decide) (fun _ => by decide) (lc_feed hI hi hl hL bk bs n1)
  · exact wt_table (tgt := 225) dL_law_39 (by decide) (fun _ => by decide) (lc_word hI hi hl hL bk bs n1)
  · exact wt_table (tgt := 250) dL_law_39 (by decide) (fun _ => by decide) (lc_scope hI hi hl hL bk bs n1)
  · exact wt_table (tgt := 303) dL_law_39 (by decide) (fun _ => by decide) (lc_classes hI hi hl hL bk bs n1)
  · exact wt_table (tgt := 340) dL_law_39 (by decide) (fun _ => by decide) (lc_danger hI hi hl hL bk bs n1)
  · exact wt_table (tgt := 393) dL_law_39 (by decide) (fun _ => by decide) (lc_rule hI hi hl hL bk bs n1)
  · exact wt_table (tgt := 418) dL_law_39 (by decide) (fun _ => by decide) (lc_token hI hi hl hL bk bs n1)
  · exact wt_table (tgt := 455) dL_law_39 (by decide) (fun _ => by decide) (lc_setting hI hi hl hL bk bs n1)
  · exact wt_table (tgt := 492) dL_law_39 (by decide) (fun _ => by decide) (lc_near hI hi hl hL bk bs n1)
  · exact wt_table (tgt := 529) dL_law_39 (by decide) (fun _ => by decide) (lc_line hI hi hl hL bk bs n1)
  · exact wt_table (tgt := 542) dL_law_39 (by decide) (fun _ => by decide) (lc_at hI hi hl hL bk bs n1)
  · exact wt_table (tgt := 567) dL_law_39 (by decide) (fun _ => by decide) (lc_typed hI hi hl hL bk bs n1)
  · exact wt_table (tgt := 604) dL_law_39 (by decide) (fun _ => by decide) (lc_look hI hi hl hL bk bs n1)
  · exact wt_table (tgt := 617) dL_law_39 (by decide) (fun _ => by decide) (lc_told hI hi hl hL bk bs n1)
  · exact wt_table (tgt := 642) dL_law_39 (by decide) (fun _ => by decide) (lc_proposal hI hi hl hL bk bs n1)
  · exact wt_table (tgt := 679) dL_law_39 (by decide) (fun _ => by decide) (lc_fix hI hi hl hL bk bs n1)
  · exact wt_table (tgt := 692) dL_law_39 (by decide) (fun _ => by decide) (lc_choose hI hi hl hL bk bs n1)
  · exact wt_table (tgt := 717) dL_law_39 (by decide) (fun _ => by decide) (lc_missing hI hi hl hL bk bs n1)
  · exact wt_table (tgt := 742) dL_law_39 (by decide) (fun _ => by decide) (lc_hint hI hi hl hL bk bs n1)
  · exact wt_table (tgt := 767) dL_law_39 (by decide) (fun _ => by decide) (lc_verbs hI hi hl hL bk bs n1)
  · exact wt_table (tgt := 804) dL_law_39 (by decide) (fun _ => by decide) (lc_edits hI hi hl hL bk bs n1)
  · exact wt_table (tgt := 841) dL_law_39 (by decide) (fun _ => by decide) (hc h i k0 s0 hI hi hl hL (by omega) (by omega) (n9 (k0 + 1) (s0 + 6) (by omega) (by omega)))
  · exact wt_table (tgt := 909) dL_law_39 (by decide) (fun _ => by decide) (lc_forward hI hi hl hL bk bs n1)
  · exact wt_table (tgt := 922) dL_law_39 (by decide) (fun _ => by decide) (lc_pair hI hi hl hL bk bs n1)
  · exact wt_table (tgt := 959) dL_law_39 (by decide) (fun _ => by decide) (lc_learn hI hi hl hL bk bs n1)
  · exact wt_table (tgt := 984) dL_law_39 (by decide) (fun _ => by decide) (lc_count hI hi hl hL bk bs n1)
theorem law_loop {P : Option AV → SH → HP → Prop} (hc : LCell P) (hP : ∀ sh h, P (some (.inl 1)) sh h) : ∀ (d : Nat) (h : HP) (i : Int) (k0 s0 : Nat), IV h → 0 ≤ i → 0 ≤ h 1004 0 → h 1004 0 ≤ 2048 → i ≤ 2048 → h 1004 0 - i ≤ d → 4 * (k0 : Int) ≤ 312 + i → 4 * (s0 : Int) ≤ 53384 + 6 * i → Wt mLaw_law 600 20000 k0 s0 23 (LL i) [] SH0 h P := by
  intro d
  induction d with
  | zero =>
    intro h i k0 s0 hI hi h0 hL hi2 hd hk hs
    exact law_step hc hP hI hi h0 hL hi2 hk hs (fun z => absurd z (by omega))
  | succ d ih =>
    intro h i k0 s0 hI hi h0 hL hi2 hd hk hs
    exact law_step hc hP hI hi h0 hL hi2 hk hs (fun z h' k0' s0' hI' e b1 b2 => ih h' (i + 4) k0' s0' hI' (by omega) (by omega) (by omega) (by omega) (by omega) b1 b2)
set_option maxRecDepth 100000 in
set_option maxHeartbeats 4000000 in
theorem law_all {P : Option AV → SH → HP → Prop} (hc : LCell P) (hP : ∀ sh h, P (some (.inl 1)) sh h) {h : HP} (hz : Zr 0 h) (hf : ∀ j : Nat, j < 9 → h 1001 j = setF j) (hb : ∀ j : Nat, j < 9 → h 1002 j = setLo j ∧ h 1003 j = setHi j) (h0 : 0 ≤ h 1004 0) (hL : h 1004 0 ≤ 2048) : Wt mLaw_law 600 20000 0 0 0 [some (.inr (.inr 1000)), none, none, none, none, none, none] [] ShC0 h P := by
  refine wt_newn (n := 0) (ci := 10) (sh' := ShC1) rfl (by decide) (mem_TBL (List.mem_of_getElem? (i := 68) (by decide +kernel)) rfl) (mem_TBL (List.mem_of_getElem? (i := 69) (by decide +kernel)) rfl) (mem_TBL (List.mem_of_getElem? (i := 48) (by decide +kernel)) rfl) (fun j => hz 0 (Nat.le_refl _) (by decide) j) (by decide) (by decide) (by decide) dL_law_0 rfl ?_
  refine wt_dup trivial dL_law_3 ?_
  refine wt_callI (k := 0) (as := []) (S := [.inr (.inr 0)]) ⟨(mem_TBL (List.mem_of_getElem? (i := 70) (by decide +kernel)) rfl), (mem_TBL (List.mem_of_getElem? (i := 48) (by decide +kernel)) rfl), (mem_TBL (List.mem_of_getElem? (i := 72) (by decide +kernel)) rfl), rfl, by decide, by decide, by decide +kernel⟩ (mem_TBL (List.mem_of_getElem? (i := 71) (by decide +kernel)) rfl) rfl rfl (by decide) (by decide) (fun _ => cat_le (by decide)) (by decide) (by decide) (cHelp_init1 (Zr.le hz (show 0 ≤ 1 by decide))) dL_law_4 ?_
  rintro _ _ _ ⟨rfl, rfl, rfl⟩
  simp only [Option.toList_none, List.nil_append]
  refine wt_astore_n (i := 1) (by decide) trivial dL_law_7 ?_
  refine wt_newn (n := 43) (ci := 11) (sh' := ShC96) rfl (by decide) (mem_TBL (List.mem_of_getElem? (i := 878) (by decide +kernel)) rfl) (mem_TBL (List.mem_of_getElem? (i := 879) (by decide +kernel)) rfl) (mem_TBL (List.mem_of_getElem? (i := 60) (by decide +kernel)) rfl) (fun j => (cHelp_init1_z (Zr.le hz (show 0 ≤ 1 by decide))) 43 (Nat.le_refl _) (by decide) j) (by decide) (by decide) (by decide) dL_law_8 rfl ?_
  refine wt_dup trivial dL_law_11 ?_
  refine wt_callI (k := 43) (as := []) (S := [.inr (.inr 43)]) ⟨(mem_TBL (List.mem_of_getElem? (i := 880) (by decide +kernel)) rfl), (mem_TBL (List.mem_of_getElem? (i := 60) (by decide +kernel)) rfl), (mem_TBL (List.mem_of_getElem? (i := 882) (by decide +kernel)) rfl), rfl, by decide, by decide, by decide +kernel⟩ (mem_TBL (List.mem_of_getElem? (i := 881) (by decide +kernel)) rfl) rfl rfl (by decide) (by decide) (fun _ => cat_le (by decide)) (by decide) (by decide) (cModel_init1 (Zr.le (cHelp_init1_z (Zr.le hz (show 0 ≤ 1 by decide))) (show 43 ≤ 44 by decide))) dL_law_12 ?_
  rintro _ _ _ ⟨rfl, rfl, rfl⟩
  simp only [Option.toList_none, List.nil_append]
  refine wt_astore_n (i := 2) (by decide) trivial dL_law_15 ?_
  refine wt_iconst ⟨by decide, by decide⟩ dL_law_16 ?_
  refine wt_newJn (n := 77) (N := 1) (sh' := ShC163) rfl rfl (by decide) (fun j => (cModel_init1_z (Zr.le (cHelp_init1_z (Zr.le hz (show 0 ≤ 1 by decide))) (show 43 ≤ 44 by decide))) 77 (Nat.le_refl _) (by decide) j) (by decide) (by decide) (by decide) dL_law_17 rfl ?_
  rw [ShC_end]
  refine wt_astore_n (i := 3) (by decide) trivial dL_law_19 ?_
  refine wt_iconst ⟨by decide, by decide⟩ dL_law_20 ?_
  refine wt_istore (i := 4) (by decide) trivial dL_law_21 ?_
  show Wt mLaw_law 600 20000 78 13346 23 (LL 0) [] SH0 (EM (EH h)) P
  have e : EM (EH h) 1004 = h 1004 := by rw [EM_hi (by decide), EH_hi (by decide)]
  exact law_loop hc hP 2048 _ 0 78 13346 (iv_first hz hf hb) (by decide) (by rw [e]; exact h0) (by rw [e]; exact hL) (by decide) (by rw [e]; omega) (by decide) (by decide)
