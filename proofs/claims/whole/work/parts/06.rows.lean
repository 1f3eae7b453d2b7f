/-! rows of the small machine, an instruction each -/
section
variable {mi : MI} {mc ms k0 s0 pc : Nat} {L : List (Option AV)} {S : List AV} {sh : SH} {h : HP} {P : Option AV → SH → HP → Prop}
variable {p : Program} {l : Launch} {e : Env} {R : Room} {s : State} {m : MethodId} {args : Array Value} {below : List Frame} {meth : Method} {c : Code} {D : va_G} {cs : Nat → ClassId} {ad0 ad : Nat → Nat} {n0 rl : Nat} {ro : HP} {A : Nat → Prop} {H : Heap} {locs : List Loc} {ls : Array Slot}
theorem SS.stack (st : SS mi s D cs ad0 n0 ro A H locs ad ls L S sh h) {S' : List AV} (hS : ∀ v ∈ S', okV sh.length v) : SS mi s D cs ad0 n0 ro A H locs ad ls L S' sh h := by
  obtain ⟨a1, a2, a3, a4, -, a6⟩ := st
  exact ⟨a1, a2, a3, a4, hS, a6⟩
theorem SS.sok (st : SS mi s D cs ad0 n0 ro A H locs ad ls L S sh h) : ∀ v ∈ S, okV sh.length v := st.2.2.2.2.1
theorem SS.hok (st : SS mi s D cs ad0 n0 ro A H locs ad ls L S sh h) : okH h := st.2.2.2.2.2.1
theorem SS.lok (st : SS mi s D cs ad0 n0 ro A H locs ad ls L S sh h) {i : Nat} {v : AV} (hl : L[i]? = some (some v)) : okV sh.length v := st.2.2.2.1 i v hl
theorem SS.lat (st : SS mi s D cs ad0 n0 ro A H locs ad ls L S sh h) {i : Nat} {v : AV} (hl : L[i]? = some (some v)) : ls[i]? = some (Slot.val (cv ad v)) := st.2.2.1.2.2 i v hl
theorem ok_cons {n : Nat} {v : AV} {S : List AV} (hv : okV n v) (hS : ∀ w ∈ S, okV n w) : ∀ w ∈ v :: S, okV n w := by
  intro w hw
  rcases List.mem_cons.mp hw with rfl | hw
  · exact hv
  · exact hS w hw
theorem ok_I {n : Nat} {x : Int} {S : List AV} (hv : inR x) (hS : ∀ w ∈ S, okV n w) : ∀ w ∈ (.inl x :: S : List AV), okV n w := ok_cons (v := .inl x) hv hS
theorem ok_J {n : Nat} {x : Int64} {S : List AV} (hS : ∀ w ∈ S, okV n w) : ∀ w ∈ (.inr (.inl x) :: S : List AV), okV n w := ok_cons (v := .inr (.inl x)) trivial hS
theorem ok_hd {n : Nat} {v : AV} {S : List AV} (hS : ∀ w ∈ v :: S, okV n w) : okV n v := hS v List.mem_cons_self
theorem ok_tl {n : Nat} {v : AV} {S : List AV} (hS : ∀ w ∈ v :: S, okV n w) : ∀ w ∈ S, okV n w := fun w hw => hS w (List.mem_cons_of_mem _ hw)
theorem Wt.stk {pc' : Nat} {S' : List AV} (hS' : ∀ n, (∀ v ∈ S, okV n v) → ∀ v ∈ S', okV n v)
    (step : ∀ (p : Program) (l : Launch) (e : Env) (R : Room) (s : State) (m : MethodId) (args : Array Value) (below : List Frame) (meth : Method) (c : Code) (H : Heap) (locs : List Loc) (Q : State → Prop) (ls : Array Slot) (ad : Nat → Nat), p.tables.exec = Jvm.exec → c.code = mCode mi → s.vm.findClass (RN (mOwn mi)) = some m.cls → (∀ w ∈ TBL, w.before args s = true) → (∀ v ∈ S, okV sh.length v) → W p l e R s m args below meth c H locs k0 s0 Q (F0 m pc' ls (S'.map (cv ad))) → W p l e R s m args below meth c H locs k0 s0 Q (F0 m pc ls (S.map (cv ad))))
    (k : Wt mi mc ms k0 s0 pc' L S' sh h P) : Wt mi mc ms k0 s0 pc L S sh h P := by
  intro p l e R s m args below meth c D cs ad0 n0 rl ro A Q cx he H locs ad ls st hk hs
  exact step _ _ _ _ _ _ _ _ _ _ _ _ _ _ ad cx.1 cx.2.1 cx.2.2.2.2.1 cx.2.2.2.2.2.1 st.sok (k _ _ _ _ _ _ _ _ _ _ _ _ _ _ _ _ _ _ cx he _ _ _ _ (st.stack (hS' _ st.sok)) hk hs)
theorem wt_iconst {n : Int} (hn : inR n) (hd : decode (mCode mi) pc = .ok (.iconst n, 1)) (k : Wt mi mc ms k0 s0 (pc + 1) L (.inl n :: S) sh h P) : Wt mi mc ms k0 s0 pc L S sh h P :=
  Wt.stk (fun _ hS => ok_I hn hS) (fun _ _ _ _ _ _ _ _ _ _ _ _ _ _ _ hx hb _ _ _ k => lv_iconst hx hb hd rfl k) k
theorem i8_32 {n : Int} (h1 : -128 ≤ n) (h2 : n ≤ 127) : (Int8.ofInt n).toInt32 = Int32.ofInt n := by
  rw [← Int32.toInt_inj, Int8.toInt_toInt32, Int8.toInt_ofInt_of_le (by omega) (by omega), ofI_t ⟨by omega, by omega⟩]
theorem i16_32 {n : Int} (h1 : -32768 ≤ n) (h2 : n ≤ 32767) : (Int16.ofInt n).toInt32 = Int32.ofInt n := by
  rw [← Int32.toInt_inj, Int16.toInt_toInt32, Int16.toInt_ofInt_of_le (by omega) (by omega), ofI_t ⟨by omega, by omega⟩]
theorem wt_bipush {n : Int} (h1 : -128 ≤ n) (h2 : n ≤ 127) (hd : decode (mCode mi) pc = .ok (.bipush n, 2)) (k : Wt mi mc ms k0 s0 (pc + 2) L (.inl n :: S) sh h P) : Wt mi mc ms k0 s0 pc L S sh h P :=
  Wt.stk (fun _ hS => ok_cons (v := .inl n) ⟨by omega, by omega⟩ hS) (fun _ _ _ _ _ _ _ _ _ _ _ _ _ _ _ hx hb _ _ _ k => lv_bipush hx hb hd (i8_32 h1 h2) k) k
theorem wt_sipush {n : Int} (h1 : -32768 ≤ n) (h2 : n ≤ 32767) (hd : decode (mCode mi) pc = .ok (.sipush n, 3)) (k : Wt mi mc ms k0 s0 (pc + 3) L (.inl n :: S) sh h P) : Wt mi mc ms k0 s0 pc L S sh h P :=
  Wt.stk (fun _ hS => ok_cons (v := .inl n) ⟨by omega, by omega⟩ hS) (fun _ _ _ _ _ _ _ _ _ _ _ _ _ _ _ hx hb _ _ _ k => lv_sipush hx hb hd (i16_32 h1 h2) k) k
theorem wt_ldc {n : Int} {i : Nat} (hn : inR n) (hw : Cond.constant (RN (mOwn mi)) i (Int32.ofInt n) ∈ TBL) (hd : decode (mCode mi) pc = .ok (.ldc i, 2)) (k : Wt mi mc ms k0 s0 (pc + 2) L (.inl n :: S) sh h P) : Wt mi mc ms k0 s0 pc L S sh h P :=
  Wt.stk (fun _ hS => ok_I hn hS) (fun _ _ _ _ _ _ _ _ _ _ _ _ _ _ _ hx hb ho ht _ k => lv_ldc hx hb ho (ht _ hw) hd k) k
theorem wt_ldc2 {n : Int64} {i : Nat} (hw : Cond.constantLong (RN (mOwn mi)) i n ∈ TBL) (hd : decode (mCode mi) pc = .ok (.ldc2_w i, 3)) (k : Wt mi mc ms k0 s0 (pc + 3) L (.inr (.inl n) :: S) sh h P) : Wt mi mc ms k0 s0 pc L S sh h P :=
  Wt.stk (fun _ hS => ok_J hS) (fun _ _ _ _ _ _ _ _ _ _ _ _ _ _ _ hx hb ho ht _ k => lv_ldc2 hx hb ho (ht _ hw) hd k) k
theorem wt_iadd {x y : Int} (hd : decode (mCode mi) pc = .ok (.iadd, 1)) (k : Wt mi mc ms k0 s0 (pc + 1) L (.inl (wr (x + y)) :: S) sh h P) : Wt mi mc ms k0 s0 pc L (.inl y :: .inl x :: S) sh h P :=
  Wt.stk (fun _ hS => ok_I (wr_in _) (ok_tl (ok_tl hS))) (fun _ _ _ _ _ _ _ _ _ _ _ _ _ _ ad hx hb _ _ _ k => lv_iadd hx hb hd (by rw [List.map_cons, cv, ofI_wr, Int32.ofInt_add] at k; exact k)) k
theorem wt_isub {x y : Int} (hd : decode (mCode mi) pc = .ok (.isub, 1)) (k : Wt mi mc ms k0 s0 (pc + 1) L (.inl (wr (x - y)) :: S) sh h P) : Wt mi mc ms k0 s0 pc L (.inl y :: .inl x :: S) sh h P :=
  Wt.stk (fun _ hS => ok_I (wr_in _) (ok_tl (ok_tl hS))) (fun _ _ _ _ _ _ _ _ _ _ _ _ _ _ ad hx hb _ _ _ k => lv_isub hx hb hd (by rw [List.map_cons, cv, ofI_wr, Int32.ofInt_sub] at k; exact k)) k
theorem wt_imul {x y : Int} (hd : decode (mCode mi) pc = .ok (.imul, 1)) (k : Wt mi mc ms k0 s0 (pc + 1) L (.inl (wr (x * y)) :: S) sh h P) : Wt mi mc ms k0 s0 pc L (.inl y :: .inl x :: S) sh h P :=
  Wt.stk (fun _ hS => ok_I (wr_in _) (ok_tl (ok_tl hS))) (fun _ _ _ _ _ _ _ _ _ _ _ _ _ _ ad hx hb _ _ _ k => lv_imul hx hb hd (by rw [List.map_cons, cv, ofI_wr, Int32.ofInt_mul] at k; exact k)) k
def band (x y : Int) : Int := (Int32.ofInt x &&& Int32.ofInt y).toInt
def bshr (x y : Int) : Int := (Int32.ofInt x >>> (Int32.ofInt y &&& 31)).toInt
theorem wt_iand {x y : Int} (hd : decode (mCode mi) pc = .ok (.iand, 1)) (k : Wt mi mc ms k0 s0 (pc + 1) L (.inl (band x y) :: S) sh h P) : Wt mi mc ms k0 s0 pc L (.inl y :: .inl x :: S) sh h P :=
  Wt.stk (fun _ hS => ok_I (inR_t _) (ok_tl (ok_tl hS))) (fun _ _ _ _ _ _ _ _ _ _ _ _ _ _ ad hx hb _ _ _ k => lv_iand hx hb hd (by rw [List.map_cons, cv, Int32.ofInt_toInt] at k; exact k)) k
theorem wt_ishr {x y : Int} (hd : decode (mCode mi) pc = .ok (.ishr, 1)) (k : Wt mi mc ms k0 s0 (pc + 1) L (.inl (bshr x y) :: S) sh h P) : Wt mi mc ms k0 s0 pc L (.inl y :: .inl x :: S) sh h P :=
  Wt.stk (fun _ hS => ok_I (inR_t _) (ok_tl (ok_tl hS))) (fun _ _ _ _ _ _ _ _ _ _ _ _ _ _ ad hx hb _ _ _ k => lv_ishr hx hb hd (by rw [List.map_cons, cv, Int32.ofInt_toInt] at k; exact k)) k
theorem i2l_ofI {x : Int} (hx : inR x) : (Int32.ofInt x).toInt64 = Int64.ofInt x := Int32.toInt64_ofInt hx.1 hx.2
theorem wt_i2l {x : Int} (hd : decode (mCode mi) pc = .ok (.i2l, 1)) (k : Wt mi mc ms k0 s0 (pc + 1) L (.inr (.inl (Int64.ofInt x)) :: S) sh h P) : Wt mi mc ms k0 s0 pc L (.inl x :: S) sh h P :=
  Wt.stk (fun _ hS => ok_J (ok_tl hS)) (fun _ _ _ _ _ _ _ _ _ _ _ _ _ _ ad hx hb _ _ hS k => lv_i2l hx hb hd (i2l_ofI (ok_hd hS)) k) k
theorem wt_l2i {w : Int64} (hd : decode (mCode mi) pc = .ok (.l2i, 1)) (k : Wt mi mc ms k0 s0 (pc + 1) L (.inl w.toInt32.toInt :: S) sh h P) : Wt mi mc ms k0 s0 pc L (.inr (.inl w) :: S) sh h P :=
  Wt.stk (fun _ hS => ok_I (inR_t _) (ok_tl hS)) (fun _ _ _ _ _ _ _ _ _ _ _ _ _ _ ad hx hb _ _ hS k => lv_l2i hx hb hd rfl (by rw [List.map_cons, cv, Int32.ofInt_toInt] at k; exact k)) k
def lushr (w : Int64) (y : Int) : Int64 := (w.toUInt64 >>> ((Int32.ofInt y).toInt64.toUInt64 &&& Int64.toUInt64 63)).toInt64
def lshr (w : Int64) (y : Int) : Int64 := w >>> ((Int32.ofInt y).toInt64 &&& 63)
def lshl (w : Int64) (y : Int) : Int64 := w <<< ((Int32.ofInt y).toInt64 &&& 63)
theorem wt_lushr {w : Int64} {y : Int} (hd : decode (mCode mi) pc = .ok (.lushr, 1)) (k : Wt mi mc ms k0 s0 (pc + 1) L (.inr (.inl (lushr w y)) :: S) sh h P) : Wt mi mc ms k0 s0 pc L (.inl y :: .inr (.inl w) :: S) sh h P :=
  Wt.stk (fun _ hS => ok_J (ok_tl (ok_tl hS))) (fun _ _ _ _ _ _ _ _ _ _ _ _ _ _ ad hx hb _ _ hS k => lv_lushr hx hb hd rfl k) k
theorem wt_lshr {w : Int64} {y : Int} (hd : decode (mCode mi) pc = .ok (.lshr, 1)) (k : Wt mi mc ms k0 s0 (pc + 1) L (.inr (.inl (lshr w y)) :: S) sh h P) : Wt mi mc ms k0 s0 pc L (.inl y :: .inr (.inl w) :: S) sh h P :=
  Wt.stk (fun _ hS => ok_J (ok_tl (ok_tl hS))) (fun _ _ _ _ _ _ _ _ _ _ _ _ _ _ ad hx hb _ _ hS k => lv_lshr hx hb hd rfl k) k
theorem wt_lshl {w : Int64} {y : Int} (hd : decode (mCode mi) pc = .ok (.lshl, 1)) (k : Wt mi mc ms k0 s0 (pc + 1) L (.inr (.inl (lshl w y)) :: S) sh h P) : Wt mi mc ms k0 s0 pc L (.inl y :: .inr (.inl w) :: S) sh h P :=
  Wt.stk (fun _ hS => ok_J (ok_tl (ok_tl hS))) (fun _ _ _ _ _ _ _ _ _ _ _ _ _ _ ad hx hb _ _ hS k => lv_lshl hx hb hd rfl k) k
theorem wt_land {w y : Int64} (hd : decode (mCode mi) pc = .ok (.land, 1)) (k : Wt mi mc ms k0 s0 (pc + 1) L (.inr (.inl (w &&& y)) :: S) sh h P) : Wt mi mc ms k0 s0 pc L (.inr (.inl y) :: .inr (.inl w) :: S) sh h P :=
  Wt.stk (fun _ hS => ok_J (ok_tl (ok_tl hS))) (fun _ _ _ _ _ _ _ _ _ _ _ _ _ _ ad hx hb _ _ hS k => lv_land hx hb hd k) k
theorem wt_lor {w y : Int64} (hd : decode (mCode mi) pc = .ok (.lor, 1)) (k : Wt mi mc ms k0 s0 (pc + 1) L (.inr (.inl (w ||| y)) :: S) sh h P) : Wt mi mc ms k0 s0 pc L (.inr (.inl y) :: .inr (.inl w) :: S) sh h P :=
  Wt.stk (fun _ hS => ok_J (ok_tl (ok_tl hS))) (fun _ _ _ _ _ _ _ _ _ _ _ _ _ _ ad hx hb _ _ hS k => lv_lor hx hb hd k) k
theorem wt_lcmp {w y : Int64} (hd : decode (mCode mi) pc = .ok (.lcmp, 1)) (k : Wt mi mc ms k0 s0 (pc + 1) L (.inl (lg_cmp w y).toInt :: S) sh h P) : Wt mi mc ms k0 s0 pc L (.inr (.inl y) :: .inr (.inl w) :: S) sh h P :=
  Wt.stk (fun _ hS => ok_I (inR_t _) (ok_tl (ok_tl hS))) (fun _ _ _ _ _ _ _ _ _ _ _ _ _ _ ad hx hb _ _ hS k => W.lcmp hx hb hd (by rw [List.map_cons, cv, Int32.ofInt_toInt] at k; exact k)) k
def cat1 (v : AV) : Prop := match v with
  | .inr (.inl _) => False
  | _ => True
theorem cat1_ok {v : AV} (hv : cat1 v) (ad : Nat → Nat) : (cv ad v).category = 1 := by
  obtain x | w | k := v
  · rfl
  · exact hv.elim
  · rfl
theorem wt_dup {v : AV} (hv : cat1 v) (hd : decode (mCode mi) pc = .ok (.dup, 1)) (k : Wt mi mc ms k0 s0 (pc + 1) L (v :: v :: S) sh h P) : Wt mi mc ms k0 s0 pc L (v :: S) sh h P :=
  Wt.stk (fun _ hS => ok_cons (ok_hd hS) hS) (fun _ _ _ _ _ _ _ _ _ _ _ _ _ _ ad hx hb _ _ hS k => lv_dup hx hb hd (cat1_ok hv ad) k) k
theorem wt_pop {v : AV} (hv : cat1 v) (hd : decode (mCode mi) pc = .ok (.pop, 1)) (k : Wt mi mc ms k0 s0 (pc + 1) L S sh h P) : Wt mi mc ms k0 s0 pc L (v :: S) sh h P :=
  Wt.stk (fun _ hS => ok_tl hS) (fun _ _ _ _ _ _ _ _ _ _ _ _ _ _ ad hx hb _ _ hS k => lv_pop hx hb hd (cat1_ok hv ad) k) k
theorem wt_dup2 {v w : AV} (hv : cat1 v) (hw : cat1 w) (hd : decode (mCode mi) pc = .ok (.dup2, 1)) (k : Wt mi mc ms k0 s0 (pc + 1) L (v :: w :: v :: w :: S) sh h P) : Wt mi mc ms k0 s0 pc L (v :: w :: S) sh h P :=
  Wt.stk (fun _ hS => ok_cons (ok_hd hS) (ok_cons (ok_hd (ok_tl hS)) hS)) (fun _ _ _ _ _ _ _ _ _ _ _ _ _ _ ad hx hb _ _ hS k => lv_dup2_11 hx hb hd (cat1_ok hv ad) (cat1_ok hw ad) k) k
theorem wt_goto {off : Int} {tgt : Nat} (ht : (pc : Int) + off = (tgt : Int)) (hd : decode (mCode mi) pc = .ok (.goto off, 3)) (k : Wt mi mc ms k0 s0 tgt L S sh h P) : Wt mi mc ms k0 s0 pc L S sh h P :=
  Wt.stk (fun _ hS => hS) (fun _ _ _ _ _ _ _ _ _ _ _ _ _ _ ad hx hb _ _ hS k => lv_goto hx hb hd ht k) k
-- branches
def cmpP (cd : ClassFile.Cond) (x y : Int) : Prop := match cd with
  | .eq => x = y
  | .ne => ¬ x = y
  | .lt => x < y
  | .ge => y ≤ x
  | .gt => y < x
  | .le => x ≤ y
theorem wt_icmp {cd : ClassFile.Cond} {off : Int} {tgt : Nat} {x y : Int} (ht : (pc : Int) + off = (tgt : Int)) (hd : decode (mCode mi) pc = .ok (.if_icmp cd off, 3)) (kt : cmpP cd x y → Wt mi mc ms k0 s0 tgt L S sh h P) (kf : ¬ cmpP cd x y → Wt mi mc ms k0 s0 (pc + 3) L S sh h P) : Wt mi mc ms k0 s0 pc L (.inl y :: .inl x :: S) sh h P := by
  intro p l e R s m args below meth c D cs ad0 n0 rl ro A Q cx he H locs ad ls st hk hs
  have hy : inR y := ok_hd st.sok
  have hx : inR x := ok_hd (ok_tl st.sok)
  have st' := st.stack (ok_tl (ok_tl st.sok))
  have kt' := fun q => kt q _ _ _ _ _ _ _ _ _ _ _ _ _ _ _ _ _ _ cx he _ _ _ _ st' hk hs
  have kf' := fun q => kf q _ _ _ _ _ _ _ _ _ _ _ _ _ _ _ _ _ _ cx he _ _ _ _ st' hk hs
  cases cd
  · exact lv_icmp_eq cx.1 cx.2.1 hd ht (fun q => kt' ((ofI_eq hx hy).mp q)) (fun q => kf' (fun z => q ((ofI_eq hx hy).mpr z)))
  · exact lv_icmp_ne cx.1 cx.2.1 hd ht (fun q => kt' (fun z => q ((ofI_eq hx hy).mpr z))) (fun q => kf' (fun z => z ((ofI_eq hx hy).mp q)))
  · exact lv_icmp_lt cx.1 cx.2.1 hd ht (fun q => kt' ((ofI_lt hx hy).mp q)) (fun q => kf' (fun z => q ((ofI_lt hx hy).mpr z)))
  · exact lv_icmp_ge cx.1 cx.2.1 hd ht (fun q => kt' ((ofI_le hy hx).mp q)) (fun q => kf' (fun z => q ((ofI_le hy hx).mpr z)))
  · exact lv_icmp_gt cx.1 cx.2.1 hd ht (fun q => kt' ((ofI_lt hy hx).mp q)) (fun q => kf' (fun z => q ((ofI_lt hy hx).mpr z)))
  · exact lv_icmp_le cx.1 cx.2.1 hd ht (fun q => kt' ((ofI_le hx hy).mp q)) (fun q => kf' (fun z => q ((ofI_le hx hy).mpr z)))
theorem wt_if {cd : ClassFile.Cond} {off : Int} {tgt : Nat} {x : Int} (ht : (pc : Int) + off = (tgt : Int)) (hd : decode (mCode mi) pc = .ok (.ifCond cd off, 3)) (kt : cmpP cd x 0 → Wt mi mc ms k0 s0 tgt L S sh h P) (kf : ¬ cmpP cd x 0 → Wt mi mc ms k0 s0 (pc + 3) L S sh h P) : Wt mi mc ms k0 s0 pc L (.inl x :: S) sh h P := by
  intro p l e R s m args below meth c D cs ad0 n0 rl ro A Q cx he H locs ad ls st hk hs
  have hx : inR x := ok_hd st.sok
  have hy : inR 0 := ⟨by decide, by decide⟩
  have st' := st.stack (ok_tl st.sok)
  have kt' := fun q => kt q _ _ _ _ _ _ _ _ _ _ _ _ _ _ _ _ _ _ cx he _ _ _ _ st' hk hs
  have kf' := fun q => kf q _ _ _ _ _ _ _ _ _ _ _ _ _ _ _ _ _ _ cx he _ _ _ _ st' hk hs
  cases cd
  · exact lv_if_eq cx.1 cx.2.1 hd ht (fun q => kt' ((ofI_eq hx hy).mp q)) (fun q => kf' (fun z => q ((ofI_eq hx hy).mpr z)))
  · exact lv_if_ne cx.1 cx.2.1 hd ht (fun q => kt' (fun z => q ((ofI_eq hx hy).mpr z))) (fun q => kf' (fun z => z ((ofI_eq hx hy).mp q)))
  · exact lv_if_lt cx.1 cx.2.1 hd ht (fun q => kt' ((ofI_lt hx hy).mp q)) (fun q => kf' (fun z => q ((ofI_lt hx hy).mpr z)))
  · exact lv_if_ge cx.1 cx.2.1 hd ht (fun q => kt' ((ofI_le hy hx).mp q)) (fun q => kf' (fun z => q ((ofI_le hy hx).mpr z)))
  · exact lv_if_gt cx.1 cx.2.1 hd ht (fun q => kt' ((ofI_lt hy hx).mp q)) (fun q => kf' (fun z => q ((ofI_lt hy hx).mpr z)))
  · exact lv_if_le cx.1 cx.2.1 hd ht (fun q => kt' ((ofI_le hx hy).mp q)) (fun q => kf' (fun z => q ((ofI_le hx hy).mpr z)))
theorem wt_table {dflt lo hi : Int} {offs : Array Int} {len tgt : Nat} {x : Int} (hd : decode (mCode mi) pc = .ok (.tableswitch dflt lo hi offs, len)) (ht : (pc : Int) + (if x < lo ∨ hi < x then dflt else offs.getD (x - lo).toNat 0) = (tgt : Int)) (hin : ¬ (x < lo ∨ hi < x) → (x - lo).toNat < offs.size) (k : Wt mi mc ms k0 s0 tgt L S sh h P) : Wt mi mc ms k0 s0 pc L (.inl x :: S) sh h P := by
  intro p l e R s m args below meth c D cs ad0 n0 rl ro A Q cx he H locs ad ls st hk hs
  have hx : inR x := ok_hd st.sok
  have k' := k _ _ _ _ _ _ _ _ _ _ _ _ _ _ _ _ _ _ cx he _ _ _ _ (st.stack (ok_tl st.sok)) hk hs
  by_cases hc : x < lo ∨ hi < x
  · rw [if_pos hc] at ht
    exact lv_tableOut cx.1 cx.2.1 hd (by rw [ofI_t hx]; exact hc) ht k'
  · rw [if_neg hc] at ht
    have hlt := hin hc
    refine lv_tableIn cx.1 cx.2.1 hd (by rw [ofI_t hx]; exact fun q => hc (Or.inl q)) (by rw [ofI_t hx]; exact fun q => hc (Or.inr q)) (off := offs.getD (x - lo).toNat 0) ?_ ht k'
    rw [ofI_t hx]
    simp [Array.getD, hlt]
-- locals
theorem Wt.psh {pc' : Nat} {v : AV} {i : Nat} (hl : L[i]? = some (some v))
    (step : ∀ (p : Program) (l : Launch) (e : Env) (R : Room) (s : State) (m : MethodId) (args : Array Value) (below : List Frame) (meth : Method) (c : Code) (H : Heap) (locs : List Loc) (Q : State → Prop) (ls : Array Slot) (ad : Nat → Nat), p.tables.exec = Jvm.exec → c.code = mCode mi → ls[i]? = some (Slot.val (cv ad v)) → W p l e R s m args below meth c H locs k0 s0 Q (F0 m pc' ls ((v :: S).map (cv ad))) → W p l e R s m args below meth c H locs k0 s0 Q (F0 m pc ls (S.map (cv ad))))
    (k : Wt mi mc ms k0 s0 pc' L (v :: S) sh h P) : Wt mi mc ms k0 s0 pc L S sh h P := by
  intro p l e R s m args below meth c D cs ad0 n0 rl ro A Q cx he H locs ad ls st hk hs
  exact step _ _ _ _ _ _ _ _ _ _ _ _ _ _ ad cx.1 cx.2.1 (st.lat hl) (k _ _ _ _ _ _ _ _ _ _ _ _ _ _ _ _ _ _ cx he _ _ _ _ (st.stack (ok_cons (st.lok hl) st.sok)) hk hs)
theorem wt_iload {i : Nat} {x : Int} (hl : L[i]? = some (some (.inl x))) (hd : decode (mCode mi) pc = .ok (.iload i, 2)) (k : Wt mi mc ms k0 s0 (pc + 2) L (.inl x :: S) sh h P) : Wt mi mc ms k0 s0 pc L S sh h P :=
  Wt.psh hl (fun _ _ _ _ _ _ _ _ _ _ _ _ _ _ ad hx hb hq k => lv_iload hx hb hd hq k) k
theorem wt_iload_n {i : Fin 4} {x : Int} (hl : L[(i : Nat)]? = some (some (.inl x))) (hd : decode (mCode mi) pc = .ok (.iload_n i, 1)) (k : Wt mi mc ms k0 s0 (pc + 1) L (.inl x :: S) sh h P) : Wt mi mc ms k0 s0 pc L S sh h P :=
  Wt.psh hl (fun _ _ _ _ _ _ _ _ _ _ _ _ _ _ ad hx hb hq k => lv_iload_n hx hb hd rfl hq k) k
theorem wt_aload {i : Nat} {x : Nat} (hl : L[i]? = some (some (.inr (.inr x)))) (hd : decode (mCode mi) pc = .ok (.aload i, 2)) (k : Wt mi mc ms k0 s0 (pc + 2) L (.inr (.inr x) :: S) sh h P) : Wt mi mc ms k0 s0 pc L S sh h P :=
  Wt.psh hl (fun _ _ _ _ _ _ _ _ _ _ _ _ _ _ ad hx hb hq k => lv_aload hx hb hd hq k) k
theorem wt_aload_n {i : Fin 4} {x : Nat} (hl : L[(i : Nat)]? = some (some (.inr (.inr x)))) (hd : decode (mCode mi) pc = .ok (.aload_n i, 1)) (k : Wt mi mc ms k0 s0 (pc + 1) L (.inr (.inr x) :: S) sh h P) : Wt mi mc ms k0 s0 pc L S sh h P :=
  Wt.psh hl (fun _ _ _ _ _ _ _ _ _ _ _ _ _ _ ad hx hb hq k => lv_aload_n hx hb hd rfl hq k) k
theorem wt_lload_n {i : Fin 4} {x : Int64} (hl : L[(i : Nat)]? = some (some (.inr (.inl x)))) (hd : decode (mCode mi) pc = .ok (.lload_n i, 1)) (k : Wt mi mc ms k0 s0 (pc + 1) L (.inr (.inl x) :: S) sh h P) : Wt mi mc ms k0 s0 pc L S sh h P :=
  Wt.psh hl (fun _ _ _ _ _ _ _ _ _ _ _ _ _ _ ad hx hb hq k => lv_lload_n hx hb hd rfl hq k) k
def lvL (ad : Nat → Nat) (L : List (Option AV)) : List (Nat × Value) := L.zipIdx.filterMap (fun q => q.1.map (fun v => (q.2, cv ad v)))
theorem mem_lvL {ad : Nat → Nat} {L : List (Option AV)} {q : Nat × Value} : q ∈ lvL ad L ↔ ∃ w, L[q.1]? = some (some w) ∧ q.2 = cv ad w := by
  obtain ⟨i, v⟩ := q
  simp only [lvL, List.mem_filterMap, Prod.exists, List.mem_zipIdx_iff_getElem?, Option.map_eq_some_iff, Prod.mk.injEq]
  constructor
  · rintro ⟨a, b, h1, w, h2, h3, h4⟩
    subst h2; subst h3
    exact ⟨w, h1, h4.symm⟩
  · rintro ⟨w, h1, h2⟩
    exact ⟨some w, i, h1, w, rfl, rfl, h2.symm⟩
theorem Lr.has {nL : Nat} (hl : Lr ls nL ad L) : lv_has ls nL (lvL ad L) := by
  refine ⟨hl.1, hl.2.1, fun q hq => ?_⟩
  obtain ⟨w, h1, h2⟩ := mem_lvL.mp hq
  rw [h2]
  exact hl.2.2 _ _ h1
def okSt (L : List (Option AV)) (i : Nat) : Prop := match i with
  | 0 => True
  | j + 1 => match L[j]? with
    | some (some (.inr (.inl _))) => False
    | _ => True
theorem Lr.set {nL i : Nat} {v : AV} (ho : okSt L i) (hl : lv_has ls nL ((i, cv ad v) :: (lvL ad L).filter (fun q => !(q.1 == i) && !(q.1 + 1 == i && q.2.category == 2)))) : Lr ls nL ad (L.set i (some v)) := by
  refine ⟨hl.1, hl.2.1, fun j w hj => ?_⟩
  by_cases hji : i = j
  · subst hji
    by_cases hlt : i < L.length
    · rw [List.getElem?_set_self hlt] at hj
      cases hj
      exact hl.2.2 (i, cv ad v) List.mem_cons_self
    · rw [List.getElem?_eq_none (by simp; omega)] at hj
      cases hj
  · rw [List.getElem?_set_ne hji] at hj
    refine hl.2.2 (j, cv ad w) (List.mem_cons_of_mem _ (List.mem_filter.mpr ⟨mem_lvL.mpr ⟨w, hj, rfl⟩, ?_⟩))
    have h1 : (j == i) = false := by simpa using fun q => hji q.symm
    simp only [h1, Bool.not_false, Bool.true_and, Bool.not_eq_true', Bool.and_eq_false_iff]
    by_cases h2 : j + 1 = i
    · right
      subst h2
      unfold okSt at ho
      simp only at ho
      rw [hj] at ho
      obtain x | w | k := w
      · rfl
      · exact ho.elim
      · rfl
    · left
      simpa using h2
theorem Wt.sto {pc' i : Nat} {v : AV} (hi : i < mMaxL mi) (ho : okSt L i)
    (step : ∀ (p : Program) (l : Launch) (e : Env) (R : Room) (s : State) (m : MethodId) (args : Array Value) (below : List Frame) (meth : Method) (c : Code) (H : Heap) (locs : List Loc) (Q : State → Prop) (ls : Array Slot) (ad : Nat → Nat), p.tables.exec = Jvm.exec → c.code = mCode mi → lv_has ls (mMaxL mi) (lvL ad L) → (∀ ls' : Array Slot, lv_has ls' (mMaxL mi) ((i, cv ad v) :: (lvL ad L).filter (fun q => !(q.1 == i) && !(q.1 + 1 == i && q.2.category == 2))) → W p l e R s m args below meth c H locs k0 s0 Q (F0 m pc' ls' (S.map (cv ad)))) → W p l e R s m args below meth c H locs k0 s0 Q (F0 m pc ls ((v :: S).map (cv ad))))
    (k : Wt mi mc ms k0 s0 pc' (L.set i (some v)) S sh h P) : Wt mi mc ms k0 s0 pc L (v :: S) sh h P := by
  intro p l e R s m args below meth c D cs ad0 n0 rl ro A Q cx he H locs ad ls st hk hs
  refine step _ _ _ _ _ _ _ _ _ _ _ _ _ _ ad cx.1 cx.2.1 st.2.2.1.has (fun ls' hl' => k _ _ _ _ _ _ _ _ _ _ _ _ _ _ _ _ _ _ cx he _ _ _ _ ?_ hk hs)
  obtain ⟨a1, a2, a3, a4, a5, a6⟩ := st
  refine ⟨a1, a2, Lr.set ho hl', fun j w hj => ?_, ok_tl a5, a6⟩
  by_cases hji : i = j
  · subst hji
    by_cases hlt : i < L.length
    · rw [List.getElem?_set_self hlt] at hj
      cases hj
      exact ok_hd a5
    · rw [List.getElem?_eq_none (by simp; omega)] at hj
      cases hj
  · rw [List.getElem?_set_ne hji] at hj
    exact a4 j w hj
theorem wt_istore {i : Nat} {x : Int} (hi : i < mMaxL mi) (ho : okSt L i) (hd : decode (mCode mi) pc = .ok (.istore i, 2)) (k : Wt mi mc ms k0 s0 (pc + 2) (L.set i (some (.inl x))) S sh h P) : Wt mi mc ms k0 s0 pc L (.inl x :: S) sh h P :=
  Wt.sto hi ho (fun _ _ _ _ _ _ _ _ _ _ _ _ _ _ ad hx hb hq k => lv_istore hx hb hd hq hi rfl k) k
theorem wt_istore_n {i : Fin 4} {x : Int} (hi : (i : Nat) < mMaxL mi) (ho : okSt L i) (hd : decode (mCode mi) pc = .ok (.istore_n i, 1)) (k : Wt mi mc ms k0 s0 (pc + 1) (L.set i (some (.inl x))) S sh h P) : Wt mi mc ms k0 s0 pc L (.inl x :: S) sh h P :=
  Wt.sto hi ho (fun _ _ _ _ _ _ _ _ _ _ _ _ _ _ ad hx hb hq k => lv_istore_n hx hb hd rfl hq hi rfl k) k
theorem wt_astore {i x : Nat} (hi : i < mMaxL mi) (ho : okSt L i) (hd : decode (mCode mi) pc = .ok (.astore i, 2)) (k : Wt mi mc ms k0 s0 (pc + 2) (L.set i (some (.inr (.inr x)))) S sh h P) : Wt mi mc ms k0 s0 pc L (.inr (.inr x) :: S) sh h P :=
  Wt.sto hi ho (fun _ _ _ _ _ _ _ _ _ _ _ _ _ _ ad hx hb hq k => lv_astore hx hb hd hq hi rfl k) k
theorem wt_astore_n {i : Fin 4} {x : Nat} (hi : (i : Nat) < mMaxL mi) (ho : okSt L i) (hd : decode (mCode mi) pc = .ok (.astore_n i, 1)) (k : Wt mi mc ms k0 s0 (pc + 1) (L.set i (some (.inr (.inr x)))) S sh h P) : Wt mi mc ms k0 s0 pc L (.inr (.inr x) :: S) sh h P :=
  Wt.sto hi ho (fun _ _ _ _ _ _ _ _ _ _ _ _ _ _ ad hx hb hq k => lv_astore_n hx hb hd rfl hq hi rfl k) k
theorem wt_iinc {i : Nat} {n x : Int} (hl : L[i]? = some (some (.inl x))) (hi : i < mMaxL mi) (ho : okSt L i) (hd : decode (mCode mi) pc = .ok (.iinc i n, 3)) (k : Wt mi mc ms k0 s0 (pc + 3) (L.set i (some (.inl (wr (x + n))))) S sh h P) : Wt mi mc ms k0 s0 pc L S sh h P := by
  intro p l e R s m args below meth c D cs ad0 n0 rl ro A Q cx he H locs ad ls st hk hs
  obtain ⟨q, hq⟩ := List.getElem?_of_mem (mem_lvL.mpr ⟨.inl x, hl, rfl⟩ : (i, cv ad (.inl x)) ∈ lvL ad L)
  refine lv_iinc cx.1 cx.2.1 hd st.2.2.1.has hq (v := Int32.ofInt (wr (x + n))) (by rw [ofI_wr, Int32.ofInt_add]) hi rfl (fun ls' hl' => k _ _ _ _ _ _ _ _ _ _ _ _ _ _ _ _ _ _ cx he _ _ _ _ ?_ hk hs)
  obtain ⟨a1, a2, a3, a4, a5, a6⟩ := st
  refine ⟨a1, a2, Lr.set (v := .inl (wr (x + n))) ho hl', fun j w hj => ?_, a5, a6⟩
  by_cases hji : i = j
  · subst hji
    by_cases hlt : i < L.length
    · rw [List.getElem?_set_self hlt] at hj
      cases hj
      exact wr_in _
    · rw [List.getElem?_eq_none (by simp; omega)] at hj
      cases hj
  · rw [List.getElem?_set_ne hji] at hj
    exact a4 j w hj
end
