/-! the evaluator: from a place of a method, the condition under which it comes to its end with P; it stops at the places named as cuts -/
def jm (pc : Nat) (off : Int) (f : Nat → Prop) : Prop := 0 ≤ (pc : Int) + off ∧ f ((pc : Int) + off).toNat
def pI (S : List AV) (f : Int → List AV → Prop) : Prop := match S with
  | .inl x :: S' => f x S'
  | _ => False
def pR (S : List AV) (f : Nat → List AV → Prop) : Prop := match S with
  | .inr (.inr x) :: S' => f x S'
  | _ => False
def pJ (S : List AV) (f : Int64 → List AV → Prop) : Prop := match S with
  | .inr (.inl x) :: S' => f x S'
  | _ => False
def pV (S : List AV) (f : AV → List AV → Prop) : Prop := match S with
  | v :: S' => f v S'
  | _ => False
def lI (L : List (Option AV)) (i : Nat) (f : Int → Prop) : Prop := match L[i]? with
  | some (some (.inl x)) => f x
  | _ => False
def lR (L : List (Option AV)) (i : Nat) (f : Nat → Prop) : Prop := match L[i]? with
  | some (some (.inr (.inr x))) => f x
  | _ => False
def lJ (L : List (Option AV)) (i : Nat) (f : Int64 → Prop) : Prop := match L[i]? with
  | some (some (.inr (.inl x))) => f x
  | _ => False
def popN (n : Nat) (acc S : List AV) (f : List AV → List AV → Prop) : Prop := match n with
  | 0 => f acc S
  | n + 1 => match S with
    | v :: S' => popN n (v :: acc) S' f
    | [] => False
theorem pI_c {x : Int} {S : List AV} {f : Int → List AV → Prop} : pI (.inl x :: S) f = f x S := rfl
theorem pR_c {x : Nat} {S : List AV} {f : Nat → List AV → Prop} : pR (.inr (.inr x) :: S) f = f x S := rfl
theorem pJ_c {x : Int64} {S : List AV} {f : Int64 → List AV → Prop} : pJ (.inr (.inl x) :: S) f = f x S := rfl
theorem pV_c {x : AV} {S : List AV} {f : AV → List AV → Prop} : pV (x :: S) f = f x S := rfl
theorem popN_0 {acc S : List AV} {f : List AV → List AV → Prop} : popN 0 acc S f = f acc S := rfl
theorem popN_s {n : Nat} {v : AV} {acc S : List AV} {f : List AV → List AV → Prop} : popN (n + 1) acc (v :: S) f = popN n (v :: acc) S f := rfl
theorem lI_0 {x : Int} {L : List (Option AV)} {f : Int → Prop} : lI (some (.inl x) :: L) 0 f = f x := rfl
theorem lR_0 {x : Nat} {L : List (Option AV)} {f : Nat → Prop} : lR (some (.inr (.inr x)) :: L) 0 f = f x := rfl
theorem lJ_0 {x : Int64} {L : List (Option AV)} {f : Int64 → Prop} : lJ (some (.inr (.inl x)) :: L) 0 f = f x := rfl
theorem lI_s {v : Option AV} {L : List (Option AV)} {i : Nat} {f : Int → Prop} : lI (v :: L) (i + 1) f = lI L i f := by simp only [lI, List.getElem?_cons_succ]
theorem lR_s {v : Option AV} {L : List (Option AV)} {i : Nat} {f : Nat → Prop} : lR (v :: L) (i + 1) f = lR L i f := by simp only [lR, List.getElem?_cons_succ]
theorem lJ_s {v : Option AV} {L : List (Option AV)} {i : Nat} {f : Int64 → Prop} : lJ (v :: L) (i + 1) f = lJ L i f := by simp only [lJ, List.getElem?_cons_succ]
theorem okSt_0 {L : List (Option AV)} : okSt L 0 = True := rfl
theorem okSt_I {x : Int} {L : List (Option AV)} : okSt (some (.inl x) :: L) 1 = True := rfl
theorem okSt_R {x : Nat} {L : List (Option AV)} : okSt (some (.inr (.inr x)) :: L) 1 = True := rfl
theorem okSt_N {L : List (Option AV)} : okSt (none :: L) 1 = True := rfl
theorem okSt_s {v : Option AV} {L : List (Option AV)} {i : Nat} : okSt (v :: L) (i + 2) = okSt L (i + 1) := by simp only [okSt, List.getElem?_cons_succ]
theorem pI_ex {S : List AV} {f : Int → List AV → Prop} (h : pI S f) : ∃ x S', S = .inl x :: S' ∧ f x S' := by
  unfold pI at h
  split at h
  · exact ⟨_, _, rfl, h⟩
  · exact h.elim
theorem pR_ex {S : List AV} {f : Nat → List AV → Prop} (h : pR S f) : ∃ x S', S = .inr (.inr x) :: S' ∧ f x S' := by
  unfold pR at h
  split at h
  · exact ⟨_, _, rfl, h⟩
  · exact h.elim
theorem pJ_ex {S : List AV} {f : Int64 → List AV → Prop} (h : pJ S f) : ∃ x S', S = .inr (.inl x) :: S' ∧ f x S' := by
  unfold pJ at h
  split at h
  · exact ⟨_, _, rfl, h⟩
  · exact h.elim
theorem pV_ex {S : List AV} {f : AV → List AV → Prop} (h : pV S f) : ∃ x S', S = x :: S' ∧ f x S' := by
  unfold pV at h
  split at h
  · exact ⟨_, _, rfl, h⟩
  · exact h.elim
theorem lI_ex {L : List (Option AV)} {i : Nat} {f : Int → Prop} (h : lI L i f) : ∃ x, L[i]? = some (some (.inl x)) ∧ f x := by
  unfold lI at h
  split at h
  · rename_i x hx; exact ⟨_, hx, h⟩
  · exact h.elim
theorem lR_ex {L : List (Option AV)} {i : Nat} {f : Nat → Prop} (h : lR L i f) : ∃ x, L[i]? = some (some (.inr (.inr x))) ∧ f x := by
  unfold lR at h
  split at h
  · rename_i x hx; exact ⟨_, hx, h⟩
  · exact h.elim
theorem lJ_ex {L : List (Option AV)} {i : Nat} {f : Int64 → Prop} (h : lJ L i f) : ∃ x, L[i]? = some (some (.inr (.inl x))) ∧ f x := by
  unfold lJ at h
  split at h
  · rename_i x hx; exact ⟨_, hx, h⟩
  · exact h.elim
theorem popN_ex {f : List AV → List AV → Prop} : ∀ (n : Nat) (acc S : List AV), popN n acc S f → ∃ as S', S = as.reverse ++ S' ∧ as.length = n ∧ f (as ++ acc) S'
  | 0, acc, S, h => ⟨[], S, rfl, rfl, h⟩
  | n + 1, acc, [], h => h.elim
  | n + 1, acc, v :: S, h => by
    obtain ⟨as, S', h1, h2, h3⟩ := popN_ex n (v :: acc) S h
    refine ⟨as ++ [v], S', ?_, by simp [h2], ?_⟩
    · rw [h1]; simp
    · simpa using h3
def objAt (sh : SH) (k : Nat) : Option Nat := match sh[k]? with
  | some (.inr (ci, _)) => some ci
  | _ => none
def fldR (r : Option (Option (Option Nat))) : Option (Option Nat) := match r with
  | some none => some none
  | some (some (some q)) => some (some q)
  | _ => none
def fldAt (sh : SH) (k ci j : Nat) : Option (Option Nat) := match sh[k]? with
  | some (.inr (ci', rs)) => if ci' = ci then fldR rs[j]? else none
  | _ => none
def arrAt (sh : SH) (k : Nat) : Option (Nat × Nat) := match sh[k]? with
  | some (.inl tn) => some tn
  | _ => none
def rdAt (sh : SH) (k : Nat) : Option (Nat × Nat) := if 1001 ≤ k ∧ k ≤ 1003 then some (0, 9) else arrAt sh k
theorem objAt_ex {sh : SH} {k ci : Nat} (h : objAt sh k = some ci) : ∃ rs, sh[k]? = some (.inr (ci, rs)) := by
  unfold objAt at h
  split at h
  · rename_i c rs hx; cases h; exact ⟨rs, hx⟩
  · cases h
theorem arrAt_ex {sh : SH} {k : Nat} {tn : Nat × Nat} (h : arrAt sh k = some tn) : sh[k]? = some (.inl tn) := by
  unfold arrAt at h
  split at h
  · rename_i c hx; cases h; exact hx
  · cases h
theorem fldR_ex {x : Option (Option (Option Nat))} {r : Option Nat} (h : fldR x = some r) : x = some (r.map some) := by
  obtain _ | _ | _ | q := x
  · cases h
  · cases h; rfl
  · cases h
  · cases h; rfl
theorem fldAt_ex {sh : SH} {k ci j : Nat} {r : Option Nat} (h : fldAt sh k ci j = some r) : ∃ rs, sh[k]? = some (.inr (ci, rs)) ∧ rs[j]? = some (r.map some) := by
  cases hx : sh[k]? with
  | none => simp only [fldAt, hx] at h; cases h
  | some c =>
    obtain tn | ⟨ci', rs⟩ := c
    · simp only [fldAt, hx] at h; cases h
    · by_cases e : ci' = ci
      · subst e
        have h2 : fldR rs[j]? = some r := by simpa [fldAt, hx] using h
        exact ⟨rs, rfl, fldR_ex h2⟩
      · have h2 : (none : Option (Option Nat)) = some r := by simpa [fldAt, hx, e] using h
        cases h2
def rtI (Q : Int → HP → Prop) (v : Option AV) (h : HP) : Prop := match v with
  | some (.inl r) => Q r h
  | _ => False
def rtV (Q : HP → Prop) (v : Option AV) (h : HP) : Prop := match v with
  | none => Q h
  | _ => False
theorem rtI_s {Q : Int → HP → Prop} {x : Int} {h : HP} : rtI Q (some (.inl x)) h = Q x h := rfl
theorem rtV_n {Q : HP → Prop} {h : HP} : rtV Q none h = Q h := rfl
theorem rtI_ex {Q : Int → HP → Prop} {v : Option AV} {h : HP} (k : rtI Q v h) : ∃ r, v = some (.inl r) ∧ Q r h := by
  unfold rtI at k
  split at k
  · exact ⟨_, rfl, k⟩
  · exact k.elim
theorem rtV_ex {Q : HP → Prop} {v : Option AV} {h : HP} (k : rtV Q v h) : v = none ∧ Q h := by
  unfold rtV at k
  split at k
  · exact ⟨rfl, k⟩
  · exact k.elim
def trI (q : MI) (as : List AV) (sh : SH) (h : HP) (Q : Int → HP → Prop) : Prop := Tr q 0 0 as sh h (fun v sh' h' => sh' = sh ∧ rtI Q v h')
def trV (q : MI) (as : List AV) (sh : SH) (h : HP) (Q : HP → Prop) : Prop := Tr q 0 0 as sh h (fun v sh' h' => sh' = sh ∧ rtV Q v h')
def cont (r : Option FieldType) (q : MI) (as : List AV) (sh : SH) (h : HP) (kI : Int → HP → Prop) (kV : HP → Prop) : Prop := match r with
  | none => ∃ Q : HP → Prop, trV q as sh h Q ∧ ∀ h', Q h' → kV h'
  | some _ => ∃ Q : Int → HP → Prop, trI q as sh h Q ∧ ∀ r h', Q r h' → kI r h'
theorem cont_n {q : MI} {as : List AV} {sh : SH} {h : HP} {kI : Int → HP → Prop} {kV : HP → Prop} : cont none q as sh h kI kV = ∃ Q : HP → Prop, trV q as sh h Q ∧ ∀ h', Q h' → kV h' := rfl
theorem cont_s {t : FieldType} {q : MI} {as : List AV} {sh : SH} {h : HP} {kI : Int → HP → Prop} {kV : HP → Prop} : cont (some t) q as sh h kI kV = ∃ Q : Int → HP → Prop, trI q as sh h Q ∧ ∀ r h', Q r h' → kI r h' := rfl
def retP (r : Option FieldType) (x : Int) : Prop := match r with
  | some .int => True
  | some .boolean => x = 0 ∨ x = 1
  | _ => False
theorem retP_i {x : Int} : retP (some .int) x = True := rfl
theorem retP_z {x : Int} : retP (some .boolean) x = (x = 0 ∨ x = 1) := rfl
def cpy (h : HP) (ks kd sp dp n : Nat) : HP := fun a b => if a = kd ∧ dp ≤ b ∧ b < dp + n then h ks (sp + (b - dp)) else h a b
def swP (pc : Nat) (x : Int) (K : Nat → Prop) (v : Int) (offs : List Int) : Prop := match offs with
  | [] => True
  | o :: r => (x = v → jm pc o K) ∧ swP pc x K (v + 1) r
theorem swP_n {pc : Nat} {x v : Int} {K : Nat → Prop} : swP pc x K v [] = True := rfl
theorem swP_c {pc : Nat} {x v o : Int} {K : Nat → Prop} {r : List Int} : swP pc x K v (o :: r) = ((x = v → jm pc o K) ∧ swP pc x K (v + 1) r) := rfl
def jdk (j : Nat) (sh : SH) (S : List AV) (h : HP) (K : List AV → HP → Prop) : Prop := match j with
  | 0 => pI S (fun n S => pI S (fun dp S => pR S (fun kd S => pI S (fun sp S => pR S (fun ks S => S.length ≤ 4 ∧ ∃ ns nd, arrAt sh ks = some (0, ns) ∧ arrAt sh kd = some (0, nd) ∧ (0 ≤ n ∧ 0 ≤ sp ∧ 0 ≤ dp ∧ sp + n ≤ ns ∧ dp + n ≤ nd) ∧ K S (cpy h ks kd sp.toNat dp.toNat n.toNat))))))
  | 1 => pI S (fun y S => pI S (fun x S => S.length ≤ 4 ∧ K (.inl (if x < y then y else x) :: S) h))
  | 2 => pI S (fun y S => pI S (fun x S => S.length ≤ 4 ∧ K (.inl (if y < x then y else x) :: S) h))
  | _ => False
theorem jdk_0 {sh : SH} {S : List AV} {h : HP} {K : List AV → HP → Prop} : jdk 0 sh S h K = pI S (fun n S => pI S (fun dp S => pR S (fun kd S => pI S (fun sp S => pR S (fun ks S => S.length ≤ 4 ∧ ∃ ns nd, arrAt sh ks = some (0, ns) ∧ arrAt sh kd = some (0, nd) ∧ (0 ≤ n ∧ 0 ≤ sp ∧ 0 ≤ dp ∧ sp + n ≤ ns ∧ dp + n ≤ nd) ∧ K S (cpy h ks kd sp.toNat dp.toNat n.toNat)))))) := rfl
theorem jdk_1 {sh : SH} {S : List AV} {h : HP} {K : List AV → HP → Prop} : jdk 1 sh S h K = pI S (fun y S => pI S (fun x S => S.length ≤ 4 ∧ K (.inl (if x < y then y else x) :: S) h)) := rfl
theorem jdk_2 {sh : SH} {S : List AV} {h : HP} {K : List AV → HP → Prop} : jdk 2 sh S h K = pI S (fun y S => pI S (fun x S => S.length ≤ 4 ∧ K (.inl (if y < x then y else x) :: S) h)) := rfl
def callP (mi : MI) (sh : SH) (S : List AV) (h : HP) (v : Bool) (r : Option (Nat × Nat × MI)) (K : List AV → HP → Prop) (K2 : Prop) : Prop := match r with
  | some (kd, n, q) => if v then kd = 0 ∧ popN n [] S (fun as S => pR S (fun k S => (objAt sh k = some (mOwn q) ∧ S.length ≤ 4 ∧ mFr q + 1 ≤ mFr mi ∧ 8 + (mMaxL q + 11) + mLo q ≤ mLo mi) ∧ cont (mRet q) q (.inr (.inr k) :: as) sh h (fun r h' => K (.inl r :: S) h') (fun h' => K S h')))
    else kd ≠ 0 ∧ popN n [] S (fun as S => (S.length ≤ 4 ∧ mFr q + 1 ≤ mFr mi ∧ 8 + (mMaxL q + 11) + mLo q ≤ mLo mi) ∧ cont (mRet q) q as sh h (fun r h' => K (.inl r :: S) h') (fun h' => K S h'))
  | none => K2
theorem callP_v {mi : MI} {sh : SH} {S : List AV} {h : HP} {kd n : Nat} {q : MI} {K : List AV → HP → Prop} {K2 : Prop} : callP mi sh S h true (some (kd, n, q)) K K2 = (kd = 0 ∧ popN n [] S (fun as S => pR S (fun k S => (objAt sh k = some (mOwn q) ∧ S.length ≤ 4 ∧ mFr q + 1 ≤ mFr mi ∧ 8 + (mMaxL q + 11) + mLo q ≤ mLo mi) ∧ cont (mRet q) q (.inr (.inr k) :: as) sh h (fun r h' => K (.inl r :: S) h') (fun h' => K S h')))) := rfl
theorem callP_s {mi : MI} {sh : SH} {S : List AV} {h : HP} {kd n : Nat} {q : MI} {K : List AV → HP → Prop} {K2 : Prop} : callP mi sh S h false (some (kd, n, q)) K K2 = (kd ≠ 0 ∧ popN n [] S (fun as S => (S.length ≤ 4 ∧ mFr q + 1 ≤ mFr mi ∧ 8 + (mMaxL q + 11) + mLo q ≤ mLo mi) ∧ cont (mRet q) q as sh h (fun r h' => K (.inl r :: S) h') (fun h' => K S h'))) := rfl
theorem callP_n {mi : MI} {sh : SH} {S : List AV} {h : HP} {v : Bool} {K : List AV → HP → Prop} {K2 : Prop} : callP mi sh S h v none K K2 = K2 := rfl
def fldP (r : Option (Nat × Nat × Bool × Bool)) (f : Nat → Nat → Bool → Bool → Prop) : Prop := match r with
  | some (ci, j, b1, b2) => f ci j b1 b2
  | none => False
theorem fldP_s {ci j : Nat} {b1 b2 : Bool} {f : Nat → Nat → Bool → Bool → Prop} : fldP (some (ci, j, b1, b2)) f = f ci j b1 b2 := rfl
def refP (r : Option (Option Nat)) (x : Prop) (f : Nat → Prop) : Prop := match r with
  | some none => x
  | some (some q) => f q
  | none => False
theorem refP_i {x : Prop} {f : Nat → Prop} : refP (some none) x f = x := rfl
theorem refP_r {x : Prop} {f : Nat → Prop} {q : Nat} : refP (some (some q)) x f = f q := rfl
def lenP (t : Nat) (r : Option (Nat × Nat)) (f : Nat → Prop) : Prop := match r with
  | some (t', n) => t' = t ∧ f n
  | none => False
theorem lenP_s {t t' n : Nat} {f : Nat → Prop} : lenP t (some (t', n)) f = (t' = t ∧ f n) := rfl
def lngP (r : Option Int64) (f : Int64 → Prop) : Prop := match r with
  | some k => f k
  | none => False
theorem lngP_s {k : Int64} {f : Int64 → Prop} : lngP (some k) f = f k := rfl
def ldAt (o i : Nat) : Option Int64 := if o = 11 ∧ i = 134 then some 255 else if o = 12 ∧ i = 19 then some 4294967295 else none
theorem ld_11_134 : ldAt 11 134 = some 255 := rfl
theorem ld_12_19 : ldAt 12 19 = some 4294967295 := rfl
def natP (r : Option Nat) (f : Nat → Prop) : Prop := match r with
  | some k => f k
  | none => False
theorem natP_s {k : Nat} {f : Nat → Prop} : natP (some k) f = f k := rfl

def wpI (mi : MI) (sh : SH) (i : Instr) (len pc : Nat) (L : List (Option AV)) (S : List AV) (h : HP) (K : Nat → List (Option AV) → List AV → HP → Prop) (P : Option AV → HP → Prop) : Prop := match i with
  | .iconst n => len = 1 ∧ (-128 ≤ n ∧ n ≤ 127) ∧ K (pc + 1) L (.inl n :: S) h
  | .bipush n => len = 2 ∧ (-128 ≤ n ∧ n ≤ 127) ∧ K (pc + 2) L (.inl n :: S) h
  | .sipush n => len = 3 ∧ (-32768 ≤ n ∧ n ≤ 32767) ∧ K (pc + 3) L (.inl n :: S) h
  | .ldc i => len = 2 ∧ (mOwn mi = 11 ∧ i = 197) ∧ K (pc + 2) L (.inl 1000000 :: S) h
  | .ldc2_w i => len = 3 ∧ lngP (ldAt (mOwn mi) i) (fun w => K (pc + 3) L (.inr (.inl w) :: S) h)
  | .iload i => len = 2 ∧ lI L i (fun x => K (pc + 2) L (.inl x :: S) h)
  | .aload i => len = 2 ∧ lR L i (fun x => K (pc + 2) L (.inr (.inr x) :: S) h)
  | .iload_n i => len = 1 ∧ lI L (↑i) (fun x => K (pc + 1) L (.inl x :: S) h)
  | .aload_n i => len = 1 ∧ lR L (↑i) (fun x => K (pc + 1) L (.inr (.inr x) :: S) h)
  | .lload_n i => len = 1 ∧ lJ L (↑i) (fun x => K (pc + 1) L (.inr (.inl x) :: S) h)
  | .istore i => len = 2 ∧ (i < mMaxL mi ∧ okSt L i) ∧ pI S (fun x S => K (pc + 2) (L.set i (some (.inl x))) S h)
  | .istore_n i => len = 1 ∧ ((↑i) < mMaxL mi ∧ okSt L (↑i)) ∧ pI S (fun x S => K (pc + 1) (L.set (↑i) (some (.inl x))) S h)
  | .astore i => len = 2 ∧ (i < mMaxL mi ∧ okSt L i) ∧ pR S (fun x S => K (pc + 2) (L.set i (some (.inr (.inr x)))) S h)
  | .astore_n i => len = 1 ∧ ((↑i) < mMaxL mi ∧ okSt L (↑i)) ∧ pR S (fun x S => K (pc + 1) (L.set (↑i) (some (.inr (.inr x)))) S h)
  | .iinc i n => len = 3 ∧ (i < mMaxL mi ∧ okSt L i) ∧ lI L i (fun x => K (pc + 3) (L.set i (some (.inl (wr (x + n))))) S h)
  | .iadd => len = 1 ∧ pI S (fun y S => pI S (fun x S => K (pc + 1) L (.inl (wr (x + y)) :: S) h))
  | .isub => len = 1 ∧ pI S (fun y S => pI S (fun x S => K (pc + 1) L (.inl (wr (x - y)) :: S) h))
  | .imul => len = 1 ∧ pI S (fun y S => pI S (fun x S => K (pc + 1) L (.inl (wr (x * y)) :: S) h))
  | .iand => len = 1 ∧ pI S (fun y S => pI S (fun x S => K (pc + 1) L (.inl (band x y) :: S) h))
  | .ishr => len = 1 ∧ pI S (fun y S => pI S (fun x S => K (pc + 1) L (.inl (bshr x y) :: S) h))
  | .i2l => len = 1 ∧ pI S (fun x S => K (pc + 1) L (.inr (.inl (Int64.ofInt x)) :: S) h)
  | .l2i => len = 1 ∧ pJ S (fun x S => K (pc + 1) L (.inl x.toInt32.toInt :: S) h)
  | .lushr => len = 1 ∧ pI S (fun y S => pJ S (fun x S => K (pc + 1) L (.inr (.inl (lushr x y)) :: S) h))
  | .lshr => len = 1 ∧ pI S (fun y S => pJ S (fun x S => K (pc + 1) L (.inr (.inl (lshr x y)) :: S) h))
  | .lshl => len = 1 ∧ pI S (fun y S => pJ S (fun x S => K (pc + 1) L (.inr (.inl (lshl x y)) :: S) h))
  | .land => len = 1 ∧ pJ S (fun y S => pJ S (fun x S => K (pc + 1) L (.inr (.inl (x &&& y)) :: S) h))
  | .lor => len = 1 ∧ pJ S (fun y S => pJ S (fun x S => K (pc + 1) L (.inr (.inl (x ||| y)) :: S) h))
  | .lcmp => len = 1 ∧ pJ S (fun y S => pJ S (fun x S => K (pc + 1) L (.inl (lg_cmp x y).toInt :: S) h))
  | .dup => len = 1 ∧ pV S (fun v S => cat1 v ∧ K (pc + 1) L (v :: v :: S) h)
  | .pop => len = 1 ∧ pV S (fun v S => cat1 v ∧ K (pc + 1) L S h)
  | .dup2 => len = 1 ∧ pV S (fun v S => pV S (fun w S => (cat1 v ∧ cat1 w) ∧ K (pc + 1) L (v :: w :: v :: w :: S) h))
  | .goto off => len = 3 ∧ jm pc off (fun t => K t L S h)
  | .if_icmp cd off => len = 3 ∧ pI S (fun y S => pI S (fun x S => jm pc off (fun t => (cmpP cd x y → K t L S h) ∧ (¬ cmpP cd x y → K (pc + 3) L S h))))
  | .ifCond cd off => len = 3 ∧ pI S (fun x S => jm pc off (fun t => (cmpP cd x 0 → K t L S h) ∧ (¬ cmpP cd x 0 → K (pc + 3) L S h)))
  | .tableswitch d lo hi offs => (offs.size : Int) = hi - lo + 1 ∧ pI S (fun x S => swP pc x (fun t => K t L S h) lo offs.toList ∧ (x < lo ∨ hi < x → jm pc d (fun t => K t L S h)))
  | .getfield i => len = 3 ∧ pR S (fun k S => fldP (fieldAt (mOwn mi) i) (fun ci j _ _ => refP (fldAt sh k ci j) (K (pc + 3) L (.inl (h k j) :: S) h) (fun q => K (pc + 3) L (.inr (.inr q) :: S) h)))
  | .putfield i => len = 3 ∧ pI S (fun x S => pR S (fun k S => fldP (fieldAt (mOwn mi) i) (fun ci j b1 b2 => (b1 = true ∧ b2 = false) ∧ refP (fldAt sh k ci j) (K (pc + 3) L S (up h k j x)) (fun _ => False))))
  | .getstatic i => len = 3 ∧ natP (statAt (mOwn mi) i) (fun k => K (pc + 3) L (.inr (.inr k) :: S) h)
  | .iaload => len = 1 ∧ pI S (fun x S => pR S (fun k S => lenP 0 (rdAt sh k) (fun n => (0 ≤ x ∧ x < (n : Int)) ∧ K (pc + 1) L (.inl (h k x.toNat) :: S) h)))
  | .baload => len = 1 ∧ pI S (fun x S => pR S (fun k S => lenP 1 (arrAt sh k) (fun n => (0 ≤ x ∧ x < (n : Int)) ∧ K (pc + 1) L (.inl (h k x.toNat) :: S) h)))
  | .laload => len = 1 ∧ pI S (fun x S => pR S (fun k S => lenP 2 (arrAt sh k) (fun n => (0 ≤ x ∧ x < (n : Int)) ∧ K (pc + 1) L (.inr (.inl (Int64.ofInt (h k x.toNat))) :: S) h)))
  | .iastore => len = 1 ∧ pI S (fun y S => pI S (fun x S => pR S (fun k S => lenP 0 (arrAt sh k) (fun n => (0 ≤ x ∧ x < (n : Int)) ∧ K (pc + 1) L S (up h k x.toNat y)))))
  | .bastore => len = 1 ∧ pI S (fun y S => pI S (fun x S => pR S (fun k S => lenP 1 (arrAt sh k) (fun n => (0 ≤ x ∧ x < (n : Int)) ∧ (y = 0 ∨ y = 1) ∧ K (pc + 1) L S (up h k x.toNat y)))))
  | .arraylength => len = 1 ∧ pR S (fun k S => (1001 ≤ k ∧ k ≤ 1003) ∧ K (pc + 1) L (.inl 9 :: S) h)
  | .invokevirtual i => len = 3 ∧ callP mi sh S h true (callAt (mOwn mi) i) (fun S h => K (pc + 3) L S h) False
  | .invokestatic i => len = 3 ∧ callP mi sh S h false (callAt (mOwn mi) i) (fun S h => K (pc + 3) L S h) (natP (jdkAt (mOwn mi) i) (fun j => jdk j sh S h (fun S h => K (pc + 3) L S h)))
  | .ireturn => len = 1 ∧ pI S (fun x S => S = [] ∧ retP (mRet mi) x ∧ P (some (.inl x)) h)
  | .return_ => len = 1 ∧ S = [] ∧ mRet mi = none ∧ P none h
  | _ => False
section
variable {mi : MI} {sh : SH} {len pc : Nat} {L : List (Option AV)} {S : List AV} {h : HP} {K : Nat → List (Option AV) → List AV → HP → Prop} {P : Option AV → HP → Prop}
theorem wpI_iconst {n : Int} : wpI mi sh (.iconst n) len pc L S h K P = (len = 1 ∧ (-128 ≤ n ∧ n ≤ 127) ∧ K (pc + 1) L (.inl n :: S) h) := rfl
theorem wpI_bipush {n : Int} : wpI mi sh (.bipush n) len pc L S h K P = (len = 2 ∧ (-128 ≤ n ∧ n ≤ 127) ∧ K (pc + 2) L (.inl n :: S) h) := rfl
theorem wpI_sipush {n : Int} : wpI mi sh (.sipush n) len pc L S h K P = (len = 3 ∧ (-32768 ≤ n ∧ n ≤ 32767) ∧ K (pc + 3) L (.inl n :: S) h) := rfl
theorem wpI_ldc {i : Nat} : wpI mi sh (.ldc i) len pc L S h K P = (len = 2 ∧ (mOwn mi = 11 ∧ i = 197) ∧ K (pc + 2) L (.inl 1000000 :: S) h) := rfl
theorem wpI_ldc2_w {i : Nat} : wpI mi sh (.ldc2_w i) len pc L S h K P = (len = 3 ∧ lngP (ldAt (mOwn mi) i) (fun w => K (pc + 3) L (.inr (.inl w) :: S) h)) := rfl
theorem wpI_iload {i : Nat} : wpI mi sh (.iload i) len pc L S h K P = (len = 2 ∧ lI L i (fun x => K (pc + 2) L (.inl x :: S) h)) := rfl
theorem wpI_aload {i : Nat} : wpI mi sh (.aload i) len pc L S h K P = (len = 2 ∧ lR L i (fun x => K (pc + 2) L (.inr (.inr x) :: S) h)) := rfl
theorem wpI_iload_n0 : wpI mi sh (.iload_n 0) len pc L S h K P = (len = 1 ∧ lI L 0 (fun x => K (pc + 1) L (.inl x :: S) h)) := rfl
theorem wpI_iload_n1 : wpI mi sh (.iload_n 1) len pc L S h K P = (len = 1 ∧ lI L 1 (fun x => K (pc + 1) L (.inl x :: S) h)) := rfl
theorem wpI_iload_n2 : wpI mi sh (.iload_n 2) len pc L S h K P = (len = 1 ∧ lI L 2 (fun x => K (pc + 1) L (.inl x :: S) h)) := rfl
theorem wpI_iload_n3 : wpI mi sh (.iload_n 3) len pc L S h K P = (len = 1 ∧ lI L 3 (fun x => K (pc + 1) L (.inl x :: S) h)) := rfl
theorem wpI_aload_n0 : wpI mi sh (.aload_n 0) len pc L S h K P = (len = 1 ∧ lR L 0 (fun x => K (pc + 1) L (.inr (.inr x) :: S) h)) := rfl
theorem wpI_aload_n1 : wpI mi sh (.aload_n 1) len pc L S h K P = (len = 1 ∧ lR L 1 (fun x => K (pc + 1) L (.inr (.inr x) :: S) h)) := rfl
theorem wpI_aload_n2 : wpI mi sh (.aload_n 2) len pc L S h K P = (len = 1 ∧ lR L 2 (fun x => K (pc + 1) L (.inr (.inr x) :: S) h)) := rfl
theorem wpI_aload_n3 : wpI mi sh (.aload_n 3) len pc L S h K P = (len = 1 ∧ lR L 3 (fun x => K (pc + 1) L (.inr (.inr x) :: S) h)) := rfl
theorem wpI_lload_n0 : wpI mi sh (.lload_n 0) len pc L S h K P = (len = 1 ∧ lJ L 0 (fun x => K (pc + 1) L (.inr (.inl x) :: S) h)) := rfl
theorem wpI_lload_n1 : wpI mi sh (.lload_n 1) len pc L S h K P = (len = 1 ∧ lJ L 1 (fun x => K (pc + 1) L (.inr (.inl x) :: S) h)) := rfl
theorem wpI_lload_n2 : wpI mi sh (.lload_n 2) len pc L S h K P = (len = 1 ∧ lJ L 2 (fun x => K (pc + 1) L (.inr (.inl x) :: S) h)) := rfl
theorem wpI_lload_n3 : wpI mi sh (.lload_n 3) len pc L S h K P = (len = 1 ∧ lJ L 3 (fun x => K (pc + 1) L (.inr (.inl x) :: S) h)) := rfl
theorem wpI_istore {i : Nat} : wpI mi sh (.istore i) len pc L S h K P = (len = 2 ∧ (i < mMaxL mi ∧ okSt L i) ∧ pI S (fun x S => K (pc + 2) (L.set i (some (.inl x))) S h)) := rfl
theorem wpI_istore_n0 : wpI mi sh (.istore_n 0) len pc L S h K P = (len = 1 ∧ (0 < mMaxL mi ∧ okSt L 0) ∧ pI S (fun x S => K (pc + 1) (L.set 0 (some (.inl x))) S h)) := rfl
theorem wpI_istore_n1 : wpI mi sh (.istore_n 1) len pc L S h K P = (len = 1 ∧ (1 < mMaxL mi ∧ okSt L 1) ∧ pI S (fun x S => K (pc + 1) (L.set 1 (some (.inl x))) S h)) := rfl
theorem wpI_istore_n2 : wpI mi sh (.istore_n 2) len pc L S h K P = (len = 1 ∧ (2 < mMaxL mi ∧ okSt L 2) ∧ pI S (fun x S => K (pc + 1) (L.set 2 (some (.inl x))) S h)) := rfl
theorem wpI_istore_n3 : wpI mi sh (.istore_n 3) len pc L S h K P = (len = 1 ∧ (3 < mMaxL mi ∧ okSt L 3) ∧ pI S (fun x S => K (pc + 1) (L.set 3 (some (.inl x))) S h)) := rfl
theorem wpI_astore {i : Nat} : wpI mi sh (.astore i) len pc L S h K P = (len = 2 ∧ (i < mMaxL mi ∧ okSt L i) ∧ pR S (fun x S => K (pc + 2) (L.set i (some (.inr (.inr x)))) S h)) := rfl
theorem wpI_astore_n0 : wpI mi sh (.astore_n 0) len pc L S h K P = (len = 1 ∧ (0 < mMaxL mi ∧ okSt L 0) ∧ pR S (fun x S => K (pc + 1) (L.set 0 (some (.inr (.inr x)))) S h)) := rfl
theorem wpI_astore_n1 : wpI mi sh (.astore_n 1) len pc L S h K P = (len = 1 ∧ (1 < mMaxL mi ∧ okSt L 1) ∧ pR S (fun x S => K (pc + 1) (L.set 1 (some (.inr (.inr x)))) S h)) := rfl
theorem wpI_astore_n2 : wpI mi sh (.astore_n 2) len pc L S h K P = (len = 1 ∧ (2 < mMaxL mi ∧ okSt L 2) ∧ pR S (fun x S => K (pc + 1) (L.set 2 (some (.inr (.inr x)))) S h)) := rfl
theorem wpI_astore_n3 : wpI mi sh (.astore_n 3) len pc L S h K P = (len = 1 ∧ (3 < mMaxL mi ∧ okSt L 3) ∧ pR S (fun x S => K (pc + 1) (L.set 3 (some (.inr (.inr x)))) S h)) := rfl
theorem wpI_iinc {i : Nat} {n : Int} : wpI mi sh (.iinc i n) len pc L S h K P = (len = 3 ∧ (i < mMaxL mi ∧ okSt L i) ∧ lI L i (fun x => K (pc + 3) (L.set i (some (.inl (wr (x + n))))) S h)) := rfl
theorem wpI_iadd : wpI mi sh (.iadd) len pc L S h K P = (len = 1 ∧ pI S (fun y S => pI S (fun x S => K (pc + 1) L (.inl (wr (x + y)) :: S) h))) := rfl
theorem wpI_isub : wpI mi sh (.isub) len pc L S h K P = (len = 1 ∧ pI S (fun y S => pI S (fun x S => K (pc + 1) L (.inl (wr (x - y)) :: S) h))) := rfl
theorem wpI_imul : wpI mi sh (.imul) len pc L S h K P = (len = 1 ∧ pI S (fun y S => pI S (fun x S => K (pc + 1) L (.inl (wr (x * y)) :: S) h))) := rfl
theorem wpI_iand : wpI mi sh (.iand) len pc L S h K P = (len = 1 ∧ pI S (fun y S => pI S (fun x S => K (pc + 1) L (.inl (band x y) :: S) h))) := rfl
theorem wpI_ishr : wpI mi sh (.ishr) len pc L S h K P = (len = 1 ∧ pI S (fun y S => pI S (fun x S => K (pc + 1) L (.inl (bshr x y) :: S) h))) := rfl
theorem wpI_i2l : wpI mi sh (.i2l) len pc L S h K P = (len = 1 ∧ pI S (fun x S => K (pc + 1) L (.inr (.inl (Int64.ofInt x)) :: S) h)) := rfl
theorem wpI_l2i : wpI mi sh (.l2i) len pc L S h K P = (len = 1 ∧ pJ S (fun x S => K (pc + 1) L (.inl x.toInt32.toInt :: S) h)) := rfl
theorem wpI_lushr : wpI mi sh (.lushr) len pc L S h K P = (len = 1 ∧ pI S (fun y S => pJ S (fun x S => K (pc + 1) L (.inr (.inl (lushr x y)) :: S) h))) := rfl
theorem wpI_lshr : wpI mi sh (.lshr) len pc L S h K P = (len = 1 ∧ pI S (fun y S => pJ S (fun x S => K (pc + 1) L (.inr (.inl (lshr x y)) :: S) h))) := rfl
theorem wpI_lshl : wpI mi sh (.lshl) len pc L S h K P = (len = 1 ∧ pI S (fun y S => pJ S (fun x S => K (pc + 1) L (.inr (.inl (lshl x y)) :: S) h))) := rfl
theorem wpI_land : wpI mi sh (.land) len pc L S h K P = (len = 1 ∧ pJ S (fun y S => pJ S (fun x S => K (pc + 1) L (.inr (.inl (x &&& y)) :: S) h))) := rfl
theorem wpI_lor : wpI mi sh (.lor) len pc L S h K P = (len = 1 ∧ pJ S (fun y S => pJ S (fun x S => K (pc + 1) L (.inr (.inl (x ||| y)) :: S) h))) := rfl
theorem wpI_lcmp : wpI mi sh (.lcmp) len pc L S h K P = (len = 1 ∧ pJ S (fun y S => pJ S (fun x S => K (pc + 1) L (.inl (lg_cmp x y).toInt :: S) h))) := rfl
theorem wpI_dup : wpI mi sh (.dup) len pc L S h K P = (len = 1 ∧ pV S (fun v S => cat1 v ∧ K (pc + 1) L (v :: v :: S) h)) := rfl
theorem wpI_pop : wpI mi sh (.pop) len pc L S h K P = (len = 1 ∧ pV S (fun v S => cat1 v ∧ K (pc + 1) L S h)) := rfl
theorem wpI_dup2 : wpI mi sh (.dup2) len pc L S h K P = (len = 1 ∧ pV S (fun v S => pV S (fun w S => (cat1 v ∧ cat1 w) ∧ K (pc + 1) L (v :: w :: v :: w :: S) h))) := rfl
theorem wpI_goto {off : Int} : wpI mi sh (.goto off) len pc L S h K P = (len = 3 ∧ jm pc off (fun t => K t L S h)) := rfl
theorem wpI_if_icmp {cd : ClassFile.Cond} {off : Int} : wpI mi sh (.if_icmp cd off) len pc L S h K P = (len = 3 ∧ pI S (fun y S => pI S (fun x S => jm pc off (fun t => (cmpP cd x y → K t L S h) ∧ (¬ cmpP cd x y → K (pc + 3) L S h))))) := rfl
theorem wpI_ifCond {cd : ClassFile.Cond} {off : Int} : wpI mi sh (.ifCond cd off) len pc L S h K P = (len = 3 ∧ pI S (fun x S => jm pc off (fun t => (cmpP cd x 0 → K t L S h) ∧ (¬ cmpP cd x 0 → K (pc + 3) L S h)))) := rfl
theorem wpI_tableswitch {d : Int} {lo : Int} {hi : Int} {offs : Array Int} : wpI mi sh (.tableswitch d lo hi offs) len pc L S h K P = ((offs.size : Int) = hi - lo + 1 ∧ pI S (fun x S => swP pc x (fun t => K t L S h) lo offs.toList ∧ (x < lo ∨ hi < x → jm pc d (fun t => K t L S h)))) := rfl
theorem wpI_getfield {i : Nat} : wpI mi sh (.getfield i) len pc L S h K P = (len = 3 ∧ pR S (fun k S => fldP (fieldAt (mOwn mi) i) (fun ci j _ _ => refP (fldAt sh k ci j) (K (pc + 3) L (.inl (h k j) :: S) h) (fun q => K (pc + 3) L (.inr (.inr q) :: S) h)))) := rfl
theorem wpI_putfield {i : Nat} : wpI mi sh (.putfield i) len pc L S h K P = (len = 3 ∧ pI S (fun x S => pR S (fun k S => fldP (fieldAt (mOwn mi) i) (fun ci j b1 b2 => (b1 = true ∧ b2 = false) ∧ refP (fldAt sh k ci j) (K (pc + 3) L S (up h k j x)) (fun _ => False))))) := rfl
theorem wpI_getstatic {i : Nat} : wpI mi sh (.getstatic i) len pc L S h K P = (len = 3 ∧ natP (statAt (mOwn mi) i) (fun k => K (pc + 3) L (.inr (.inr k) :: S) h)) := rfl
theorem wpI_iaload : wpI mi sh (.iaload) len pc L S h K P = (len = 1 ∧ pI S (fun x S => pR S (fun k S => lenP 0 (rdAt sh k) (fun n => (0 ≤ x ∧ x < (n : Int)) ∧ K (pc + 1) L (.inl (h k x.toNat) :: S) h)))) := rfl
theorem wpI_baload : wpI mi sh (.baload) len pc L S h K P = (len = 1 ∧ pI S (fun x S => pR S (fun k S => lenP 1 (arrAt sh k) (fun n => (0 ≤ x ∧ x < (n : Int)) ∧ K (pc + 1) L (.inl (h k x.toNat) :: S) h)))) := rfl
theorem wpI_laload : wpI mi sh (.laload) len pc L S h K P = (len = 1 ∧ pI S (fun x S => pR S (fun k S => lenP 2 (arrAt sh k) (fun n => (0 ≤ x ∧ x < (n : Int)) ∧ K (pc + 1) L (.inr (.inl (Int64.ofInt (h k x.toNat))) :: S) h)))) := rfl
theorem wpI_iastore : wpI mi sh (.iastore) len pc L S h K P = (len = 1 ∧ pI S (fun y S => pI S (fun x S => pR S (fun k S => lenP 0 (arrAt sh k) (fun n => (0 ≤ x ∧ x < (n : Int)) ∧ K (pc + 1) L S (up h k x.toNat y)))))) := rfl
theorem wpI_bastore : wpI mi sh (.bastore) len pc L S h K P = (len = 1 ∧ pI S (fun y S => pI S (fun x S => pR S (fun k S => lenP 1 (arrAt sh k) (fun n => (0 ≤ x ∧ x < (n : Int)) ∧ (y = 0 ∨ y = 1) ∧ K (pc + 1) L S (up h k x.toNat y)))))) := rfl
theorem wpI_arraylength : wpI mi sh (.arraylength) len pc L S h K P = (len = 1 ∧ pR S (fun k S => (1001 ≤ k ∧ k ≤ 1003) ∧ K (pc + 1) L (.inl 9 :: S) h)) := rfl
theorem wpI_invokevirtual {i : Nat} : wpI mi sh (.invokevirtual i) len pc L S h K P = (len = 3 ∧ callP mi sh S h true (callAt (mOwn mi) i) (fun S h => K (pc + 3) L S h) False) := rfl
theorem wpI_invokestatic {i : Nat} : wpI mi sh (.invokestatic i) len pc L S h K P = (len = 3 ∧ callP mi sh S h false (callAt (mOwn mi) i) (fun S h => K (pc + 3) L S h) (natP (jdkAt (mOwn mi) i) (fun j => jdk j sh S h (fun S h => K (pc + 3) L S h)))) := rfl
theorem wpI_ireturn : wpI mi sh (.ireturn) len pc L S h K P = (len = 1 ∧ pI S (fun x S => S = [] ∧ retP (mRet mi) x ∧ P (some (.inl x)) h)) := rfl
theorem wpI_return_ : wpI mi sh (.return_) len pc L S h K P = (len = 1 ∧ S = [] ∧ mRet mi = none ∧ P none h) := rfl
end
/-- the condition of a place, in a method that makes no cells of its own there -/
def Wn (q : Nat × Nat × Nat × Nat) (mi : MI) (sh : SH) (pc : Nat) (L : List (Option AV)) (S : List AV) (h : HP) (P : Option AV → HP → Prop) : Prop := Wt mi q.1 q.2.1 q.2.2.1 q.2.2.2 pc L S sh h (fun v sh' h' => sh' = sh ∧ P v h')
def wp (q : Nat × Nat × Nat × Nat) (mi : MI) (sh : SH) (cuts : List Nat) (n : Nat) (pc : Nat) (L : List (Option AV)) (S : List AV) (h : HP) (P : Option AV → HP → Prop) : Prop := match n with
  | 0 => Wn q mi sh pc L S h P
  | n + 1 => match decode (mCode mi) pc with
    | .ok (i, len) => wpI mi sh i len pc L S h (fun pc' L' S' h' => if cuts.contains pc' then Wn q mi sh pc' L' S' h' P else wp q mi sh cuts n pc' L' S' h' P) P
    | _ => False
theorem wp_s {q : Nat × Nat × Nat × Nat} {mi : MI} {sh : SH} {cuts : List Nat} {n pc : Nat} {L : List (Option AV)} {S : List AV} {h : HP} {P : Option AV → HP → Prop} {i : Instr} {len : Nat} (hd : decode (mCode mi) pc = .ok (i, len)) : wp q mi sh cuts (n + 1) pc L S h P = wpI mi sh i len pc L S h (fun pc' L' S' h' => if cuts.contains pc' then Wn q mi sh pc' L' S' h' P else wp q mi sh cuts n pc' L' S' h' P) P := by
  show (match decode (mCode mi) pc with
    | .ok (i, len) => wpI mi sh i len pc L S h (fun pc' L' S' h' => if cuts.contains pc' then Wn q mi sh pc' L' S' h' P else wp q mi sh cuts n pc' L' S' h' P) P
    | _ => False) = _
  rw [hd]
def nx (q : Nat × Nat × Nat × Nat) (mi : MI) (sh : SH) (cuts : List Nat) (n pc : Nat) (L : List (Option AV)) (S : List AV) (h : HP) (P : Option AV → HP → Prop) : Prop := if cuts.contains pc then Wn q mi sh pc L S h P else wp q mi sh cuts n pc L S h P
theorem wp_n {q : Nat × Nat × Nat × Nat} {mi : MI} {sh : SH} {cuts : List Nat} {n pc : Nat} {L : List (Option AV)} {S : List AV} {h : HP} {P : Option AV → HP → Prop} {i : Instr} {len : Nat} (hd : decode (mCode mi) pc = .ok (i, len)) : wp q mi sh cuts (n + 1) pc L S h P = wpI mi sh i len pc L S h (fun pc' L' S' h' => nx q mi sh cuts n pc' L' S' h' P) P := wp_s hd
theorem nx_w {q : Nat × Nat × Nat × Nat} {mi : MI} {sh : SH} {cuts : List Nat} {n pc : Nat} {L : List (Option AV)} {S : List AV} {h : HP} {P : Option AV → HP → Prop} (hc : cuts.contains pc = false) : nx q mi sh cuts n pc L S h P = wp q mi sh cuts n pc L S h P := by
  unfold nx
  rw [hc]
  rfl
theorem nx_c {q : Nat × Nat × Nat × Nat} {mi : MI} {sh : SH} {cuts : List Nat} {n pc : Nat} {L : List (Option AV)} {S : List AV} {h : HP} {P : Option AV → HP → Prop} (hc : cuts.contains pc = true) : nx q mi sh cuts n pc L S h P = Wn q mi sh pc L S h P := by
  unfold nx
  rw [hc]
  rfl
def brP (c a b : Prop) : Prop := (c → a) ∧ (¬ c → b)
theorem brP_d {c a b : Prop} : brP c a b = ((c → a) ∧ (¬ c → b)) := rfl
theorem brP_t {c a b : Prop} (hc : c) : brP c a b = a := propext ⟨fun k => k.1 hc, fun k => ⟨fun _ => k, fun z => absurd hc z⟩⟩
theorem brP_f {c a b : Prop} (hc : ¬ c) : brP c a b = b := propext ⟨fun k => k.2 hc, fun k => ⟨fun z => absurd z hc, fun _ => k⟩⟩
theorem Wt.called_nil {mi : MI} {mc ms k0 s0 pc : Nat} {L : List (Option AV)} {S : List AV} {sh : SH} {h : HP} {P : Option AV → SH → HP → Prop} (k : Wt mi mc ms k0 s0 pc L S sh h P) : Wt mi mc ms (k0 + 0) (s0 + 0) pc L S sh h P := k
section
variable {q : Nat × Nat × Nat × Nat} {mi : MI} {sh : SH} {pc : Nat} {L : List (Option AV)} {S : List AV} {h : HP} {P : Option AV → HP → Prop}
theorem wn_call {callee : MI} {as st0 : List AV} {kI : Int → HP → Prop} {kV : HP → Prop} (hc : cont (mRet callee) callee as sh h kI kV)
    (row : ∀ P' : Option AV → SH → HP → Prop, Tr callee 0 0 as sh h P' → (∀ v sh' h', P' v sh' h' → Wt mi q.1 q.2.1 (q.2.2.1 + 0) (q.2.2.2 + 0) (pc + 3) L (v.toList ++ S) sh' h' (fun v sh' h' => sh' = sh ∧ P v h')) → Wn q mi sh pc L st0 h P)
    (hI : ∀ r h', kI r h' → Wn q mi sh (pc + 3) L (.inl r :: S) h' P) (hV : ∀ h', kV h' → Wn q mi sh (pc + 3) L S h' P) : Wn q mi sh pc L st0 h P := by
  unfold cont at hc
  split at hc
  · obtain ⟨Q, hT, hk⟩ := hc
    refine row _ hT (fun v sh' h' hp => ?_)
    obtain ⟨rfl, hp⟩ := hp
    obtain ⟨rfl, hq⟩ := rtV_ex hp
    exact hV h' (hk h' hq)
  · obtain ⟨Q, hT, hk⟩ := hc
    refine row _ hT (fun v sh' h' hp => ?_)
    obtain ⟨rfl, hp⟩ := hp
    obtain ⟨r, rfl, hq⟩ := rtI_ex hp
    exact hI r h' (hk r h' hq)
theorem jm_ex {off : Int} {f : Nat → Prop} (hj : jm pc off f) : ∃ t : Nat, (pc : Int) + off = (t : Int) ∧ f t := ⟨_, (Int.toNat_of_nonneg hj.1).symm, hj.2⟩
theorem swP_at {x : Int} {K : Nat → Prop} : ∀ (offs : List Int) (v : Int), swP pc x K v offs → ∀ i : Nat, i < offs.length → x = v + i → jm pc (offs.getD i 0) K
  | [], v, _, i, hi, _ => absurd hi (Nat.not_lt_zero _)
  | o :: r, v, hs, i, hi, hx => by
    cases i with
    | zero => exact hs.1 (by simpa using hx)
    | succ i =>
      have := swP_at r (v + 1) hs.2 i (by simpa using hi) (by rw [hx]; push_cast; omega)
      simpa using this
theorem rd_ro {k t n : Nat} (h : rdAt sh k = some (t, n)) : (1001 ≤ k ∧ k ≤ 1003 ∧ t = 0 ∧ n = 9) ∨ arrAt sh k = some (t, n) := by
  unfold rdAt at h
  split at h
  · rename_i hk
    cases h
    exact Or.inl ⟨hk.1, hk.2, rfl, rfl⟩
  · exact Or.inr h
end

