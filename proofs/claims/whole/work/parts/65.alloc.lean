/-! rows of the small machine: cells that are made, constructors, the script -/
section
variable {mi : MI} {mc ms k0 s0 pc : Nat} {L : List (Option AV)} {S : List AV} {sh : SH} {h : HP} {P : Option AV → SH → HP → Prop}
variable {D : va_G} {cs : Nat → ClassId} {ad0 ad : Nat → Nat} {n0 rl : Nat} {ro : HP} {A : Nat → Prop} {H : Heap}
theorem wfC_mono {n n' : Nat} (hn : n ≤ n') {c : SC} (hw : wfC n c) : wfC n' c := by
  obtain ⟨t, m⟩ | ⟨ci, rs⟩ := c
  · exact hw
  · refine ⟨hw.1, hw.2.1, fun j q hq => ?_⟩
    rcases hw.2.2 j q hq with z | z
    · exact Or.inl (by omega)
    · exact Or.inr z
theorem eOf_agree {ad' : Nat → Nat} {n k : Nat} {c : SC} (hw : wfC n c) (ha : ∀ k, k < n ∨ 1000 ≤ k → ad' k = ad k) : eOf cs ad' h k c = eOf cs ad h k c := by
  obtain ⟨t, m⟩ | ⟨ci, rs⟩ := c
  · rfl
  · have e : rs.mapIdx (fun j r => fvOf ad' h k r j) = rs.mapIdx (fun j r => fvOf ad h k r j) := by
      refine List.ext_getElem? fun i => ?_
      rw [List.getElem?_mapIdx, List.getElem?_mapIdx]
      cases hc : rs[i]? with
      | none => rfl
      | some r =>
        obtain _ | _ | q := r
        · rfl
        · rfl
        · show some (Value.ref (ad' q)) = some (Value.ref (ad q))
          rw [ha q (hw.2.2 i q hc)]
    show (Sum.inr (ci, rs.mapIdx (fun j r => fvOf ad' h k r j)) : va_E) = Sum.inr (ci, rs.mapIdx (fun j r => fvOf ad h k r j))
    rw [e]
theorem ws_agree {ad' : Nat → Nat} (hw : ∀ (k : Nat) (c : SC), sh[k]? = some c → wfC sh.length c) (ha : ∀ k, k < sh.length ∨ 1000 ≤ k → ad' k = ad k) : wsOf cs ad' h sh = wsOf cs ad h sh := by
  refine List.ext_getElem? fun i => ?_
  simp only [wsOf, List.getElem?_mapIdx]
  cases hc : sh[i]? with
  | none => rfl
  | some c =>
    have hi : i < sh.length := (List.getElem?_eq_some_iff.mp hc).1
    simp only [Option.map_some, ha i (Or.inl hi), eOf_agree (hw i c hc) ha]
theorem ws_app {c : SC} : wsOf cs ad h (sh ++ [c]) = wsOf cs ad h sh ++ [(ad sh.length, eOf cs ad h sh.length c)] := by
  simp [wsOf, List.mapIdx_append]
theorem ws_setc {k : Nat} {c c' : SC} (hk : sh[k]? = some c) : (wsOf cs ad h sh).set k (ad k, eOf cs ad h k c') = wsOf cs ad h (sh.set k c') := by
  refine List.ext_getElem? fun i => ?_
  have hl0 : k < sh.length := (List.getElem?_eq_some_iff.mp hk).1
  have hl : k < (wsOf cs ad h sh).length := (List.getElem?_eq_some_iff.mp (ws_at (cs := cs) (ad := ad) (h := h) hk)).1
  by_cases hi : k = i
  · subst hi
    rw [List.getElem?_set_self hl, ws_at (List.getElem?_set_self hl0)]
  · rw [List.getElem?_set_ne hi]
    simp only [wsOf, List.getElem?_mapIdx, List.getElem?_set_ne hi]
theorem SS.grow {s : State} {locs : List Loc} {ls : Array Slot} (st : SS mi s D cs ad0 n0 ro A H locs ad ls L S sh h) {q : Nat} {c : SC} {H1 : Heap} (hn : sh.length < 1000) (hc : wfC sh.length c) (hP : va_P D CL (wsOf cs ad h sh ++ [(q, eOf cs ad h sh.length c)]) H1) (hD : va_D A (wsOf cs ad h sh ++ [(q, eOf cs ad h sh.length c)])) (hS : va_S A s.heap H1 locs) : SS mi s D cs ad0 n0 ro A H1 locs (fun k => if k = sh.length then q else ad k) ls L (.inr (.inr sh.length) :: S) (sh ++ [c]) h := by
  have ha : ∀ k, k < sh.length ∨ 1000 ≤ k → (fun k => if k = sh.length then q else ad k) k = ad k := fun k hk => if_neg (by omega)
  obtain ⟨a1, a2, a3, a4, a5, a6, a7, a8, a9, a10⟩ := st
  have e : wsOf cs (fun k => if k = sh.length then q else ad k) h (sh ++ [c]) = wsOf cs ad h sh ++ [(q, eOf cs ad h sh.length c)] := by
    rw [ws_app, ws_agree a1.2.2 ha, eOf_agree hc ha, if_pos rfl]
  have hle : sh.length ≤ (sh ++ [c]).length := by simp
  have hl1 : (sh ++ [c]).length = sh.length + 1 := by simp
  refine ⟨⟨by rw [e]; exact hP, by rw [e]; exact hD, fun k c' hk => ?_⟩, hS, ⟨a3.1, a3.2.1, fun i v hv => by rw [cv_agree ha (a4 i v hv)]; exact a3.2.2 i v hv⟩, fun i v hv => okV_mono hle (a4 i v hv), ok_cons (Or.inl (by omega)) (fun v hv => okV_mono hle (a5 v hv)), a6, a7, by omega, by omega, fun k hk => (ha k (by omega)).trans (a10 k hk)⟩
  refine wfC_mono hle ?_
  by_cases z : k < sh.length
  · rw [List.getElem?_append_left z] at hk
    exact a1.2.2 k c' hk
  · rw [List.getElem?_append_right (by omega)] at hk
    have hz : k - sh.length < 1 := (List.getElem?_eq_some_iff.mp hk).1
    rw [show k - sh.length = 0 by omega] at hk
    cases hk
    exact hc
theorem grow_stk {q n : Nat} (hS : ∀ v ∈ S, okV n v) (hn : n < 1000) : (Value.ref q :: S.map (cv ad)) = ((.inr (.inr n) :: S : List AV)).map (cv (fun k => if k = n then q else ad k)) := by
  rw [List.map_cons]
  congr 1
  · show Value.ref q = Value.ref (if n = n then q else ad n)
    rw [if_pos rfl]
  · exact List.map_congr_left (fun x hx => (cv_agree (fun k hk => if_neg (by omega)) (hS x hx)).symm)
-- new objects
def isI (ty : FieldType) : Bool := match ty with
  | .int => true
  | _ => false
def isRf (ty : FieldType) : Bool := match ty with
  | .object _ => true
  | .array _ => true
  | _ => false
def dflC (ci : Nat) : List (Option (Option Nat)) := (List.range (NN ci)).map (fun j => if isI (tyN ci j) then none else some none)
theorem tyN_rf {ci : Nat} (h12 : ci < 12) : ∀ j, j < NN ci → isI (tyN ci j) = true ∨ isRf (tyN ci j) = true := by
  match ci, h12 with
  | 0, _ => decide +kernel
  | 1, _ => decide +kernel
  | 2, _ => decide +kernel
  | 3, _ => decide +kernel
  | 4, _ => decide +kernel
  | 5, _ => decide +kernel
  | 6, _ => decide +kernel
  | 7, _ => decide +kernel
  | 8, _ => decide +kernel
  | 9, _ => decide +kernel
  | 10, _ => decide +kernel
  | 11, _ => decide +kernel
theorem dfl_at {ci j : Nat} (hj : j < NN ci) : (dflC ci)[j]? = some (if isI (tyN ci j) then none else some none) := by
  unfold dflC
  rw [List.getElem?_map, List.getElem?_range hj]
  rfl
theorem dfl_len {ci : Nat} : (dflC ci).length = NN ci := by simp [dflC]
theorem dfl_ok {ci n : Nat} (h12 : ci < 12) (hz : ∀ j, h n j = 0) : ∀ j, j < NN ci → defaultValue (tyN ci j) = vp_V ((dflC ci).mapIdx (fun j r => fvOf ad h n r j)) j := by
  intro j hj
  unfold vp_V
  rw [List.getD_eq_getElem?_getD, List.getElem?_mapIdx, dfl_at hj]
  by_cases z : isI (tyN ci j) = true
  · rw [if_pos z]
    have e : tyN ci j = .int := by
      revert z
      cases tyN ci j <;> intro z <;> first | rfl | cases z
    rw [e]
    show Value.int 0 = Value.int (Int32.ofInt (h n j))
    rw [hz j]
    rfl
  · rw [if_neg z]
    have y : isRf (tyN ci j) = true := by
      rcases tyN_rf h12 j hj with y | y
      · exact absurd y z
      · exact y
    show _ = Value.null
    revert y
    cases tyN ci j <;> intro y <;> first | rfl | cases y
theorem dfl_wf {ci n : Nat} (h12 : ci < 12) : wfC n (.inr (ci, dflC ci)) := by
  refine ⟨h12, dfl_len, fun j q hq => ?_⟩
  have hj : j < NN ci := by
    have := (List.getElem?_eq_some_iff.mp hq).1
    rw [dfl_len] at this
    exact this
  rw [dfl_at hj] at hq
  split at hq
  · cases hq
  · cases hq
theorem wt_new {i ci : Nat} {sh' : SH} (h12 : ci < 12) (hcl : Cond.classLink (RN (mOwn mi)) i (RN ci) ∈ TBL) (hinst : Cond.instantiable (RN ci) (NN ci) ∈ TBL) (hini : Cond.initialized (RN ci) ∈ TBL) (hz : ∀ j, h sh.length j = 0) (hlen : sh.length < 1000) (hk1 : k0 + 1 ≤ mc) (hs1 : s0 + NN ci ≤ ms) (hd : decode (mCode mi) pc = .ok (.new i, 3)) (e : sh ++ [.inr (ci, dflC ci)] = sh') (kk : Wt mi mc ms (k0 + 1) (s0 + NN ci) (pc + 3) L (.inr (.inr sh.length) :: S) sh' h P) : Wt mi mc ms k0 s0 pc L S sh h P := by
  subst e
  intro p l e R s m args below meth c D cs ad0 n0 rl ro A Q cx he H locs ad ls st hk hs
  have ht := cx.2.2.2.2.2.1
  refine va_new (D := D) (cl := CL) (tys := tysOf cs) (ci := ci) (fs := (dflC ci).mapIdx (fun j r => fvOf ad h sh.length r j)) (C := RN ci) (T := TN ci) (N := NN ci) cx.1 cx.2.1 ht (inN h12) (tyN ci) (tyN_ok h12) cx.2.2.2.2.1 (ht _ hcl) (ht _ hinst) (ht _ hini) cx.2.2.2.2.2.2.2.1.1 st.1.1 st.1.2.1 st.2.1 cx.2.2.2.2.2.2.2.2.1 (CL_at h12) (dfl_ok h12 hz) (Nat.le_trans hk1 cx.2.2.2.2.2.2.2.2.2.2.2.1) (Nat.le_trans hs1 cx.2.2.2.2.2.2.2.2.2.2.2.2.1) hd (fun q H1 hP hD hS => ?_)
  have st' := st.grow (c := .inr (ci, dflC ci)) hlen (dfl_wf h12) hP hD hS
  rw [grow_stk st.sok hlen]
  exact kk _ _ _ _ _ _ _ _ _ _ _ _ _ _ _ _ _ _ cx he _ _ _ _ st' hk1 hs1
-- new arrays
theorem wt_newarr {aT : ArrayType} {ty : FieldType} {t N : Nat} {x : Int} {sh' : SH} (hty : newarray.typeOf aT = ty) (htt : ∀ cs : Nat → ClassId, (tysOf cs)[t]? = some (cs t, ty)) (ht2 : t ≤ 2) (hra : ∀ (U : State) (cA : ClassId), va_RA U cA ty = (U.vm.findClass ("[" ++ ty.toString) = some cA)) (hdv : defaultValue ty = if t = 2 then .long 0 else .int 0) (hb : N * componentBytes ty ≤ 536870912) (harr : Cond.arrayClass ty ∈ TBL) (hx : x = N) (hN : N < 2147483648) (hz : ∀ j, h sh.length j = 0) (hlen : sh.length < 1000) (hk1 : k0 + 1 ≤ mc) (hs1 : s0 + N ≤ ms) (hd : decode (mCode mi) pc = .ok (.newarray aT, 2)) (e : sh ++ [.inl (t, N)] = sh') (kk : Wt mi mc ms (k0 + 1) (s0 + N) (pc + 2) L (.inr (.inr sh.length) :: S) sh' h P) : Wt mi mc ms k0 s0 pc L (.inl x :: S) sh h P := by
  subst e
  intro p l e R s m args below meth c D cs ad0 n0 rl ro A Q cx he H locs ad ls st hk hs
  have ht := cx.2.2.2.2.2.1
  have hin : inR x := ok_hd st.sok
  have st0 := st.stack (S' := S) (ok_tl st.sok)
  have ha : ∀ cA : ClassId, vp_cell cA (N, if t = 2 then .inr (.inl (fun j => Int64.ofInt (h sh.length j))) else .inl (fun j => Int32.ofInt (h sh.length j))) = arrV cA N (fun _ => defaultValue ty) := by
    intro cA
    by_cases y : t = 2
    · simp only [if_pos y, hdv, vp_cell, hz]
      rfl
    · simp only [if_neg y, hdv, vp_cell, hz]
      rfl
  refine va_newa (D := D) (cl := CL) (tys := tysOf cs) (ty := ty) (N' := N) (a0 := (N, if t = 2 then .inr (.inl (fun j => Int64.ofInt (h sh.length j))) else .inl (fun j => Int32.ofInt (h sh.length j)))) cx.1 cx.2.1 (by rw [hty]; exact ht _ harr) hty cx.2.2.2.2.2.2.2.1.1 st.1.1 st.1.2.1 st.2.1 cx.2.2.2.2.2.2.2.2.1 ha (fun z => by have := (ofI_lt hin ⟨by decide, by decide⟩).mp (show Int32.ofInt x < Int32.ofInt 0 from z); omega) (by rw [ofI_cl hin]; omega) hb (Nat.le_trans hk1 cx.2.2.2.2.2.2.2.2.2.2.2.1) (Nat.le_trans hs1 cx.2.2.2.2.2.2.2.2.2.2.2.2.1) hd (fun q cA H1 hK hP hD hS => ?_)
  have ecA : cA = cs t := by
    have h1 := (hK.2 t (cs t, ty) (by
      have := htt cs
      have hl : t < (tysOf cs).length := (List.getElem?_eq_some_iff.mp this).1
      rw [List.getElem?_append_left hl]
      exact this)).2
    have h2 := (hK.2 3 (cA, ty) rfl).2
    rw [hra] at h1 h2
    exact Option.some.inj (h2.symm.trans h1)
  subst ecA
  have st' := st0.grow (c := .inl (t, N)) hlen ⟨ht2, hN⟩ hP hD hS
  rw [grow_stk st0.sok hlen]
  exact kk _ _ _ _ _ _ _ _ _ _ _ _ _ _ _ _ _ _ cx he _ _ _ _ st' hk1 hs1
theorem in_arr : Cond.arrayClass .int ∈ TBL ∧ Cond.arrayClass .boolean ∈ TBL ∧ Cond.arrayClass .long ∈ TBL := by decide +kernel
theorem wt_newI {N : Nat} {x : Int} {sh' : SH} (hx : x = N) (hN : N < 100000) (hz : ∀ j, h sh.length j = 0) (hlen : sh.length < 1000) (hk1 : k0 + 1 ≤ mc) (hs1 : s0 + N ≤ ms) (hd : decode (mCode mi) pc = .ok (.newarray .int, 2)) (e : sh ++ [.inl (0, N)] = sh') (kk : Wt mi mc ms (k0 + 1) (s0 + N) (pc + 2) L (.inr (.inr sh.length) :: S) sh' h P) : Wt mi mc ms k0 s0 pc L (.inl x :: S) sh h P :=
  wt_newarr (ty := .int) (t := 0) rfl (fun _ => rfl) (by decide) (fun _ _ => rfl) rfl (by show N * 4 ≤ _; omega) in_arr.1 hx (by omega) hz hlen hk1 hs1 hd e kk
theorem wt_newZ {N : Nat} {x : Int} {sh' : SH} (hx : x = N) (hN : N < 100000) (hz : ∀ j, h sh.length j = 0) (hlen : sh.length < 1000) (hk1 : k0 + 1 ≤ mc) (hs1 : s0 + N ≤ ms) (hd : decode (mCode mi) pc = .ok (.newarray .boolean, 2)) (e : sh ++ [.inl (1, N)] = sh') (kk : Wt mi mc ms (k0 + 1) (s0 + N) (pc + 2) L (.inr (.inr sh.length) :: S) sh' h P) : Wt mi mc ms k0 s0 pc L (.inl x :: S) sh h P :=
  wt_newarr (ty := .boolean) (t := 1) rfl (fun _ => rfl) (by decide) (fun _ _ => rfl) rfl (by show N * 1 ≤ _; omega) in_arr.2.1 hx (by omega) hz hlen hk1 hs1 hd e kk
theorem wt_newJ {N : Nat} {x : Int} {sh' : SH} (hx : x = N) (hN : N < 100000) (hz : ∀ j, h sh.length j = 0) (hlen : sh.length < 1000) (hk1 : k0 + 1 ≤ mc) (hs1 : s0 + N ≤ ms) (hd : decode (mCode mi) pc = .ok (.newarray .long, 2)) (e : sh ++ [.inl (2, N)] = sh') (kk : Wt mi mc ms (k0 + 1) (s0 + N) (pc + 2) L (.inr (.inr sh.length) :: S) sh' h P) : Wt mi mc ms k0 s0 pc L (.inl x :: S) sh h P :=
  wt_newarr (ty := .long) (t := 2) rfl (fun _ => rfl) (by decide) (fun _ _ => rfl) rfl (by show N * 8 ≤ _; omega) in_arr.2.2 hx (by omega) hz hlen hk1 hs1 hd e kk
-- references put into final fields
theorem mapIdx_setr {rs : List (Option (Option Nat))} {f : Nat → Option (Option Nat) → Value} {j : Nat} {r : Option (Option Nat)} : (rs.set j r).mapIdx f = (rs.mapIdx f).set j (f j r) := by
  refine List.ext_getElem? fun i => ?_
  by_cases hi : j = i
  · subst hi
    by_cases hl : j < rs.length
    · rw [List.getElem?_mapIdx, List.getElem?_set_self hl, List.getElem?_set_self (by simpa using hl)]
      rfl
    · rw [List.getElem?_eq_none (by simp; omega), List.getElem?_eq_none (by simp; omega)]
  · rw [List.getElem?_mapIdx, List.getElem?_set_ne hi, List.getElem?_set_ne hi, List.getElem?_mapIdx]
theorem wt_putR {i ci j k q' : Nat} {rs : List (Option (Option Nat))} {sh' : SH} (hf : FOK (mOwn mi) i ci j) (hfit : ∀ a, narrow (tyN ci j) (.ref a) = .ref a ∧ fits (tyN ci j) (.ref a) = true) (hfin : (TN ci j).2.2.2 = true) (hin : (mName mi).name = "<init>") (hdecl : (TN ci j).1 = RN (mOwn mi)) (hk : sh[k]? = some (.inr (ci, rs))) (hd : decode (mCode mi) pc = .ok (.putfield i, 3)) (e : sh.set k (.inr (ci, rs.set j (some (some q')))) = sh') (kk : Wt mi mc ms k0 s0 (pc + 3) L S sh' h P) : Wt mi mc ms k0 s0 pc L (.inr (.inr q') :: .inr (.inr k) :: S) sh h P := by
  intro p l e0 R s m args below meth c D cs ad0 n0 rl ro A Q cx he H locs ad ls st hk0 hs0
  have ht := cx.2.2.2.2.2.1
  have hw : wfC sh.length (.inr (ci, rs)) := st.1.2.2 k _ hk
  have hl : j < rs.length := by rw [hw.2.1]; exact hf.2.1
  have hq : q' < sh.length ∨ 1000 ≤ q' := ok_hd st.sok
  refine va_putF (D := D) (cl := CL) (ci := ci) (v := .ref (ad q')) (ty := tyN ci j) (fs := rs.mapIdx (fun j r => fvOf ad h k r j)) (C := RN ci) (T := TN ci) (N := NN ci) cx.1 cx.2.1 ht (inN hf.1) (tyN ci) (tyN_ok hf.1) (nmN hf.1) cx.2.2.2.2.1 cx.2.2.2.2.2.2.2.1.1 st.1.1 st.1.2.1 st.2.1 k (ws_at hk) (CL_at hf.1) j hf.2.1 (ht _ hf.2.2) (fun _ h9 => h9) hfin (cx.2.2.2.2.2.2.2.2.2.2.2.2.2.trans hin) hdecl (tyN_ok hf.1 j hf.2.1) (hfit _).1 (hfit _).2 (by simpa using hl) hd (fun H1 locs1 hP hD hS => ?_)
  have e2 : (wsOf cs ad h sh).set k (ad k, .inr (ci, (rs.mapIdx (fun j r => fvOf ad h k r j)).set j (.ref (ad q')))) = wsOf cs ad h sh' := by
    rw [← e, ← ws_setc hk]
    show _ = (wsOf cs ad h sh).set k (ad k, .inr (ci, (rs.set j (some (some q'))).mapIdx (fun j r => fvOf ad h k r j)))
    rw [mapIdx_setr]
    rfl
  rw [e2] at hP hD
  have hlen : sh'.length = sh.length := by rw [← e]; simp
  obtain ⟨a1, a2, a3, a4, a5, a6, a7, a8, a9, a10⟩ := st
  refine kk _ _ _ _ _ _ _ _ _ _ _ _ _ _ _ _ _ _ cx he _ _ _ _ ⟨⟨hP, hD, fun k' c' hk' => ?_⟩, hS, a3, fun i v hv => by rw [hlen]; exact a4 i v hv, fun v hv => by rw [hlen]; exact ok_tl (ok_tl a5) v hv, a6, a7, by rw [hlen]; exact a8, by rw [hlen]; exact a9, a10⟩ hk0 hs0
  rw [hlen]
  rw [← e] at hk'
  by_cases z : k = k'
  · subst z
    rw [List.getElem?_set_self (List.getElem?_eq_some_iff.mp hk).1] at hk'
    cases hk'
    refine ⟨hw.1, by simpa using hw.2.1, fun j' q hq' => ?_⟩
    by_cases y : j = j'
    · subst y
      rw [List.getElem?_set_self hl] at hq'
      cases hq'
      exact hq
    · rw [List.getElem?_set_ne y] at hq'
      exact hw.2.2 j' q hq'
  · rw [List.getElem?_set_ne z] at hk'
    exact a1.2.2 k' c' hk'
theorem wt_objInit {i k : Nat} (hl : Cond.methodLink (RN (mOwn mi)) i objectInit ∈ TBL) (hin : Cond.instanceMethod objectInit ∈ TBL) (hc : Cond.code objectInit ⟨#[0xb1]⟩ 1 none ∈ TBL) (hfr : 1 ≤ mFr mi) (hlo : 26 ≤ mLo mi) (hS4 : S.length ≤ 4) (hd : decode (mCode mi) pc = .ok (.invokespecial i, 3)) (kk : Wt mi mc ms k0 s0 (pc + 3) L S sh h P) : Wt mi mc ms k0 s0 pc L (.inr (.inr k) :: S) sh h P := by
  intro p l e R s m args below meth c D cs ad0 n0 rl ro A Q cx he H locs ad ls st hk0 hs0
  have ht := cx.2.2.2.2.2.1
  have h8 := catS_ok (pc := pc) (S := S) (ad := ad) (m := m) (ls := ls) (st := []) hS4
  refine W.objInit cx.1 cx.2.1 cx.2.2.2.2.1 (ht _ hl) (ht _ hin) (ht _ hc) rfl (by rw [cx.2.2.2.1]; exact st.2.2.1.1) (a := ad k) (rest := S.map (cv ad)) rfl hd (Nat.le_trans hfr cx.2.2.2.2.2.2.2.2.2.1) (by
    have := cx.2.2.2.2.2.2.2.2.2.2.1
    have h9 : 2 * 0 + ((S.map (cv ad)).map fun v => v.category).sum ≤ 8 := h8
    show 2 * 0 + _ + 12 ≤ _
    omega) ?_
  exact kk _ _ _ _ _ _ _ _ _ _ _ _ _ _ _ _ _ _ cx he _ _ _ _ (st.stack (ok_tl st.sok)) hk0 hs0
theorem wt_callI {i k : Nat} {callee : MI} {as : List AV} {mc' ms' : Nat} {P' : Option AV → SH → HP → Prop} (hm : MOK (mOwn mi) i callee as.length) (hin : Cond.instanceMethod (mName callee) ∈ TBL) (hret : mRet callee = none) (hnm : (mName callee).name = "<init>")
    (hfr : mFr callee + 1 ≤ mFr mi) (hlo : 8 + (mMaxL callee + 11) + mLo callee ≤ mLo mi) (hcat : ∀ ad : Nat → Nat, ((S.map (cv ad)).map fun v => v.category).sum ≤ 8) (hk1 : k0 + mc' ≤ mc) (hs1 : s0 + ms' ≤ ms) (hT : Tr callee mc' ms' (.inr (.inr k) :: as) sh h P') (hd : decode (mCode mi) pc = .ok (.invokespecial i, 3))
    (kk : ∀ v sh' h', P' v sh' h' → Wt mi mc ms (k0 + mc') (s0 + ms') (pc + 3) L (v.toList ++ S) sh' h' P) : Wt mi mc ms k0 s0 pc L (as.reverse ++ .inr (.inr k) :: S) sh h P := by
  intro p l e R s m args below meth c D cs ad0 n0 rl ro A Q cx he H locs ad ls st hk0 hs0
  have ht := cx.2.2.2.2.2.1
  have hok : ∀ v ∈ (.inr (.inr k) :: as : List AV), okV sh.length v := fun v hv => st.sok v (by
    rcases List.mem_cons.mp hv with rfl | hv
    · exact List.mem_append_right _ List.mem_cons_self
    · exact List.mem_append_left _ (List.mem_reverse.mpr hv))
  have st' := st.stack (S' := S) (fun v hv => st.sok v (List.mem_append_right _ (List.mem_cons_of_mem _ hv)))
  have hpre := call_pre cx.2.2.2.2.2.2.2.2.1 cx.2.2.2.2.2.2.2.1 st
  have hM := hT l D cs ad rl ro H.size he.1 hok st.hok st.2.2.2.2.2.2.1 st.2.2.2.2.2.2.2.2.1
  refine Wt.called (callee := callee) (len := 3) (as := as) (a := (Value.ref (ad k) :: as.map (cv ad)).toArray) cx he st' hk1 hs1 ?_ kk
  refine va_runI (bytes := mCode callee) (maxL := mMaxL callee) (As := as.map (cv ad)) (rest := S.map (cv ad)) (b := ad k) (n := as.length) ⟨cx.1, cx.2.1, cx.2.2.2.1, cx.2.2.2.2.1, ht⟩ hM ?_ ⟨tr_blind, fun U hU hW => ⟨rfl, by rw [hU], by rw [hU]; exact hpre.1, by rw [hU]; exact hpre.2.moved hW.alike (nw_warm hW)⟩⟩ rfl (by simp) st.2.2.1.1 ?_ (by have := hcat ad; show 2 * 0 + _ ≤ 8; omega) hd ⟨Nat.le_trans hk1 cx.2.2.2.2.2.2.2.2.2.2.2.1, Nat.le_trans hs1 cx.2.2.2.2.2.2.2.2.2.2.2.2.1⟩
  · refine cwI as.length ht (GoodIn_TBL ?_) (by unfold wsM; rw [hret]) rfl rfl (ht _ hm.2.1) (ht _ hm.1) (ht _ hin) hnm hm.2.2.2.2 ⟨Nat.le_trans hfr cx.2.2.2.2.2.2.2.2.2.1, Nat.le_trans hlo cx.2.2.2.2.2.2.2.2.2.2.1⟩
    intro w hw
    rcases List.mem_cons.mp hw with rfl | hw
    · exact hm.2.2.1
    · exact hw
  · simp only [List.map_append, List.map_cons, List.map_reverse]
    rfl
-- the first settings; the script
theorem wt_getsN {i : Nat} (hw : Cond.fieldLinkNest (RN (mOwn mi)) i RX10 "SETTING_FIRST" "[I" RX10 ∈ NWL) (hd : decode (mCode mi) pc = .ok (.getstatic i, 3)) (kk : Wt mi mc ms k0 s0 (pc + 3) L (.inr (.inr 1001) :: S) sh h P) : Wt mi mc ms k0 s0 pc L S sh h P := by
  intro p l e R s m args below meth c D cs ad0 n0 rl ro A Q cx he H locs ad ls st hk0 hs0
  have hNw := cx.2.2.2.2.2.2.2.1.2.2.2.1 _ hw
  refine va_getsN cx.1 cx.2.1 (cx.2.2.2.2.2.2.2.1.2.2.1 1001 (by decide) (by decide)) st.2.1 cx.2.2.2.2.1 (show (Cond.fieldLinkNest (RN (mOwn mi)) i RX10 "SETTING_FIRST" "[I" RX10).before args s = true from hNw) (fun _ h9 => h9) hd ?_
  rw [← st.2.2.2.2.2.2.2.2.2 1001 (Or.inr (by omega))]
  exact kk _ _ _ _ _ _ _ _ _ _ _ _ _ _ _ _ _ _ cx he _ _ _ _ (st.stack (ok_cons (v := .inr (.inr 1001)) (Or.inr (by omega)) st.sok)) hk0 hs0
theorem wt_ialoadX {x : Int} (h0 : 0 ≤ x) (h1 : x < h 1004 0) (hd : decode (mCode mi) pc = .ok (.iaload, 1)) (kk : Wt mi mc ms k0 s0 (pc + 1) L (.inl (h 1000 x.toNat) :: S) sh h P) : Wt mi mc ms k0 s0 pc L (.inl x :: .inr (.inr 1000) :: S) sh h P := by
  intro p l e R s m args below meth c D cs ad0 n0 rl ro A Q cx he H locs ad ls st hk0 hs0
  have hx : inR x := ok_hd st.sok
  have hT := cx.2.2.2.2.2.2.2.1.2.1 1000 (by omega) (by omega)
  have hro : h 1000 = ro 1000 := st.2.2.2.2.2.2.1 1000 (by omega)
  have hr4 : h 1004 = ro 1004 := st.2.2.2.2.2.2.1 1004 (by omega)
  have hL : roL (ro 1004 0).toNat 1000 = (h 1004 0).toNat := by unfold roL; rw [if_pos rfl, hr4]
  rw [hL] at hT
  show W p l e R s m args below meth c H locs k0 s0 Q (F0 m pc ls (.int (Int32.ofInt x) :: .ref (ad 1000) :: S.map (cv ad)))
  rw [st.2.2.2.2.2.2.2.2.2 1000 (Or.inr (by omega))]
  refine va_ti cx.1 cx.2.1 hT st.2.1 (ofI_vp hx h0 (by omega)) (v := cv ad (.inl (h 1000 x.toNat))) (by rw [ofI_cl hx, hro]; rfl) hd ?_
  exact kk _ _ _ _ _ _ _ _ _ _ _ _ _ _ _ _ _ _ cx he _ _ _ _ (st.stack (ok_cons (st.hok 1000 x.toNat) (ok_tl (ok_tl st.sok)))) hk0 hs0
theorem wt_alenX (h0 : 0 ≤ h 1004 0) (hd : decode (mCode mi) pc = .ok (.arraylength, 1)) (kk : Wt mi mc ms k0 s0 (pc + 1) L (.inl (h 1004 0) :: S) sh h P) : Wt mi mc ms k0 s0 pc L (.inr (.inr 1000) :: S) sh h P := by
  intro p l e R s m args below meth c D cs ad0 n0 rl ro A Q cx he H locs ad ls st hk0 hs0
  have hT := cx.2.2.2.2.2.2.2.1.2.1 1000 (by omega) (by omega)
  have hr4 : h 1004 = ro 1004 := st.2.2.2.2.2.2.1 1004 (by omega)
  have hL : roL (ro 1004 0).toNat 1000 = (h 1004 0).toNat := by unfold roL; rw [if_pos rfl, hr4]
  rw [hL] at hT
  show W p l e R s m args below meth c H locs k0 s0 Q (F0 m pc ls (.ref (ad 1000) :: S.map (cv ad)))
  rw [st.2.2.2.2.2.2.2.2.2 1000 (Or.inr (by omega))]
  refine va_tlen cx.1 cx.2.1 hT st.2.1 (v := Int32.ofInt (h 1004 0)) (by
    rw [show h 1004 0 = (((h 1004 0).toNat : Nat) : Int) by omega]
    exact (Int32.ofInt_eq_ofNat (n := (h 1004 0).toNat)).symm) hd ?_
  exact kk _ _ _ _ _ _ _ _ _ _ _ _ _ _ _ _ _ _ cx he _ _ _ _ (st.stack (ok_I (st.hok 1004 0) (ok_tl st.sok))) hk0 hs0
theorem updL_of {f : HP} {k j : Nat} {x : Int} : vp_updL (fun b => Int64.ofInt (f k b)) j (Int64.ofInt x) = fun b => Int64.ofInt (up f k j x k b) := by
  funext b
  by_cases hb : b = j
  · simp [vp_updL, up, hb]
  · simp [vp_updL, up, hb]
theorem wt_lastore {k n : Nat} {x y : Int} (hk : sh[k]? = some (.inl (2, n))) (hy : inR y) (h0 : 0 ≤ x) (h1 : x < n) (hd : decode (mCode mi) pc = .ok (.lastore, 1)) (kk : Wt mi mc ms k0 s0 (pc + 1) L S sh (up h k x.toNat y) P) : Wt mi mc ms k0 s0 pc L (.inr (.inl (Int64.ofInt y)) :: .inl x :: .inr (.inr k) :: S) sh h P := by
  intro p l e R s m args below meth c D cs ad0 n0 rl ro A Q cx he H locs ad ls st hk0 hs0
  have hx : inR x := ok_hd (ok_tl st.sok)
  have hk1 : k < 1000 := Nat.lt_of_lt_of_le (List.getElem?_eq_some_iff.mp hk).1 st.2.2.2.2.2.2.2.2.1
  refine va_last cx.1 cx.2.1 cx.2.2.2.2.2.2.2.1.1 st.1.1 st.1.2.1 st.2.1 k 2 (f := fun j => Int64.ofInt (h k j)) (by rw [ws_at hk]; rfl) rfl (ofI_vp hx h0 h1) hd (fun H1 locs1 hP hD hS => ?_)
  rw [ofI_cl hx, updL_of] at hP hD
  have e2 : ((wsOf cs ad h sh).set k (ad k, .inl (cs 2, n, .inr (.inl (fun b => Int64.ofInt (up h k x.toNat y k b)))))) = wsOf cs ad (up h k x.toNat y) sh := ws_set hk (fun a ha => up_ne ha)
  rw [e2] at hP hD
  exact kk _ _ _ _ _ _ _ _ _ _ _ _ _ _ _ _ _ _ cx he _ _ _ _ (st.wrote hP hD hS (okH_up st.hok k _ hy) (fun a ha => up_ne (by omega)) (ok_tl (ok_tl (ok_tl st.sok)))) hk0 hs0
end
/-- a row of ints in the world is written anew: the world with it, and what else of the heap is seen -/
theorem cp_world {D : va_G} {cl : List vw_C} {A : Nat → Prop} {ws : va_W} {H0 H : Heap} {locs more : List Loc} {q a n : Nat} {k : ClassId} {g g' : Nat → Int32} (hP : va_P D cl ws H) (hD : va_D A ws) (hS : va_S A H0 H locs) (row : ws[q]? = some (a, .inl (k, n, .inl g))) (own : ∀ z ∈ more, z.base = a) :
    va_P D cl (ws.set q (a, .inl (k, n, .inl g'))) (H.setIfInBounds a (vp_cell k (n, .inl g'))) ∧ va_D A (ws.set q (a, .inl (k, n, .inl g'))) ∧ va_S A H0 (H.setIfInBounds a (vp_cell k (n, .inl g'))) (locs ++ more) := by
  have old : H[a]? = some (vp_cell k (n, .inl g)) := hP q _ row
  have lt : a < H.size := (Array.getElem?_eq_some_iff.mp old).1
  have off : ∀ b : Nat, b ≠ a → (H.setIfInBounds a (vp_cell k (n, .inl g')))[b]? = H[b]? := fun b ne => by rw [Array.getElem?_setIfInBounds, if_neg (fun z => ne z.symm)]
  have now : (H.setIfInBounds a (vp_cell k (n, .inl g')))[a]? = some (vp_cell k (n, .inl g')) := by rw [Array.getElem?_setIfInBounds, if_pos rfl, if_pos lt]
  have one := hS.put (k := 0) (Array.size_setIfInBounds ..) off (hD.2 q _ row)
  exact ⟨hP.set hD row now off, hD.set row, one.1, one.2.1, fun z hz => (List.mem_append.mp hz).elim (hS.2.2 z) (fun hm => by rw [own z hm]; exact hD.2 q _ row)⟩
section
variable {mi : MI} {mc ms k0 s0 pc : Nat} {L : List (Option AV)} {S : List AV} {sh : SH} {h : HP} {P : Option AV → SH → HP → Prop}
theorem wt_copyR {i kd nd : Nat} (hw : Cond.methodLink (RN (mOwn mi)) i arraycopyName ∈ TBL) (hfr : 1 ≤ mFr mi) (hlo : 26 ≤ mLo mi) (hS : S.length ≤ 4) (hkd : sh[kd]? = some (.inl (0, nd))) (h5 : 9 ≤ nd) (hd : decode (mCode mi) pc = .ok (.invokestatic i, 3)) (k : Wt mi mc ms k0 s0 (pc + 3) L S sh (cpy h 1001 kd 0 0 9) P) : Wt mi mc ms k0 s0 pc L (.inl 9 :: .inl 0 :: .inr (.inr kd) :: .inl 0 :: .inr (.inr 1001) :: S) sh h P := by
  intro p l e R s m args below meth c D cs ad0 n0 rl ro A Q cx he H locs ad ls st hk hs
  have ht := cx.2.2.2.2.2.1
  have hc := cat_le (ad := ad) hS
  have hkd1 : kd < 1000 := Nat.lt_of_lt_of_le (List.getElem?_eq_some_iff.mp hkd).1 st.2.2.2.2.2.2.2.2.1
  have hro : h 1001 = ro 1001 := st.2.2.2.2.2.2.1 1001 (by omega)
  have hT := cx.2.2.2.2.2.2.2.1.2.1 1001 (by omega) (by omega)
  have hL : roL (ro 1004 0).toNat 1001 = 9 := by unfold roL; rw [if_neg (by omega)]
  rw [hL, ← hro] at hT
  show W p l e R s m args below meth c H locs k0 s0 Q (F0 m pc ls (.int 9 :: .int 0 :: .ref (ad kd) :: .int 0 :: .ref (ad 1001) :: S.map (cv ad)))
  rw [st.2.2.2.2.2.2.2.2.2 1001 (Or.inr (by omega))]
  have row : (wsOf cs ad h sh)[kd]? = some (ad kd, .inl (cs 0, nd, .inl (fun j => Int32.ofInt (h kd j)))) := by rw [ws_at hkd]; rfl
  obtain ⟨tab, t1, ⟨t2, tk, t3, tc, t4⟩, t5, t6, -, t7, t8⟩ := hT
  obtain ⟨-, dk, d1, dc, d2⟩ := (cx.2.2.2.2.2.2.2.1.1.2 0 _ rfl).1 nd (fun j => .int (Int32.ofInt (h kd j)))
  intro T hH X
  have src : T.heap[ad0 1001]? = some tab := by rw [hH, st.2.1.2.1 _ (Array.getElem?_eq_some_iff.mp t1).1 t8]; exact t1
  have dst : T.heap[ad kd]? = some (vp_cell (cs 0) (nd, .inl (fun j => Int32.ofInt (h kd j)))) := by rw [hH]; exact st.1.1 kd _ row
  have item : ∀ i : Nat, i < 9 → tab.slots.getD (0 + i) .null = .int (Int32.ofInt (h 1001 i)) := fun i hi => by simp [Array.getD_eq_getD_getElem?, t7 i hi]
  obtain ⟨vm', X1, back⟩ := X.arraycopy cx.1 cx.2.2.2.2.1 (ht _ hw) (ht _ in_max.2.2.2.2.2.1) (ht _ in_max.2.2.2.2.2.2.1) (ht _ in_max.2.2.2.2.2.2.2) src dst t2 (fun _ hz => nomatch hz) t5 (fun hz => nomatch hz) t3 d1 t4 d2 rfl (srcPos := 0) (destPos := 0) (n := 9) (by decide) (by decide) (by decide)
    (show ¬ ((0 : Int) + 9 > (tab.slots.size : Int)) by omega) (show ¬ ((0 : Int) + 9 > ((arrV (cs 0) nd (fun j => .int (Int32.ofInt (h kd j)))).slots.size : Int)) by rw [arrV_size]; omega)
    (fun _ _ i hi => by have hv := item i hi; constructor <;> (rw [show (0 : Int32).toNatClampNeg = 0 from rfl, hv]; first | rfl | trivial))
    (g := F0 m pc ls _) rfl (show ls.size = c.maxLocals by rw [cx.2.2.2.1]; exact st.2.2.1.1) rfl (by rw [cx.2.1]; exact hd) (Nat.le_trans hfr cx.2.2.2.2.2.2.2.2.2.1)
    (show 2 * 0 + ((S.map (cv ad)).map fun v => v.category).sum + (nativeFrameWords "java/lang/System" "arraycopy" 5 + 11) ≤ R.locals from by
      have q1 := cx.2.2.2.2.2.2.2.2.2.2.1
      have q2 : nativeFrameWords "java/lang/System" "arraycopy" 5 + 11 ≤ 18 := by decide
      omega)
  have new := va_copiedX (n1 := nd) (sp := 0) (dp := 0) (n := 9) (fun z => .int z) tab (cs 0) (fun j => Int32.ofInt (h 1001 j)) (fun j => Int32.ofInt (h kd j)) t7 (Nat.le_refl 9)
  have next : ∀ b, va_cpy (fun j => Int32.ofInt (h 1001 j)) (fun j => Int32.ofInt (h kd j)) 0 0 9 b = Int32.ofInt (cpy h 1001 kd 0 0 9 kd b) := fun b => by
    simp only [va_cpy, cpy, true_and]
    split <;> rfl
  have made : copied tab (vp_cell (cs 0) (nd, .inl (fun j => Int32.ofInt (h kd j)))) 0 0 9 = vp_cell (cs 0) (nd, .inl (fun b => Int32.ofInt (cpy h 1001 kd 0 0 9 kd b))) := new.trans (by simp only [next]; rfl)
  rw [made] at X1 back
  obtain ⟨hP, hD, hS1⟩ := cp_world (g' := fun b => Int32.ofInt (cpy h 1001 kd 0 0 9 kd b)) st.1.1 st.1.2.1 st.2.1 row (more := (tab.stretch (0 : Int32).toNatClampNeg (9 : Int32).toNatClampNeg).zipIdx.map fun q => ⟨ad kd, (0 : Int32).toNatClampNeg + q.2⟩) (fun z hz => by
    obtain ⟨_, -, rfl⟩ := List.mem_map.mp hz
    rfl)
  have whole : (wsOf cs ad h sh).set kd (ad kd, .inl (cs 0, nd, .inl (fun b => Int32.ofInt (cpy h 1001 kd 0 0 9 kd b)))) = wsOf cs ad (cpy h 1001 kd 0 0 9) sh := ws_set hkd (fun a ha => cpy_ne ha)
  rw [whole] at hP hD
  obtain ⟨t, g1, g2⟩ := k _ _ _ _ _ _ _ _ _ _ _ _ _ _ _ _ _ _ cx he _ _ _ _ (st.wrote hP hD hS1 (okH_cpy st.hok _ _ _ _ _) (fun a ha => cpy_ne (by omega)) (ok_tl (ok_tl (ok_tl (ok_tl (ok_tl st.sok)))))) hk hs _ (show ((T.setVm vm').setCell _ _).heap = _ by rw [← hH]; rfl) X1
  exact ⟨t, back t g1, g2⟩
end
