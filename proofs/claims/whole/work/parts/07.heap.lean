/-! rows of the small machine: fields, arrays -/
section
variable {mi : MI} {mc ms k0 s0 pc : Nat} {L : List (Option AV)} {S : List AV} {sh : SH} {h : HP} {P : Option AV → SH → HP → Prop}
variable {D : va_G} {cs : Nat → ClassId} {ad0 ad : Nat → Nat} {n0 rl : Nat} {ro : HP} {A : Nat → Prop} {H : Heap}
theorem ws_at {k : Nat} {c : SC} (hk : sh[k]? = some c) : (wsOf cs ad h sh)[k]? = some (ad k, eOf cs ad h k c) := by simp [wsOf, List.getElem?_mapIdx, hk]
theorem eOf_congr {h' : HP} {k : Nat} (e : h' k = h k) (c : SC) : eOf cs ad h' k c = eOf cs ad h k c := by
  obtain ⟨t, n⟩ | ⟨ci, rs⟩ := c
  · simp only [eOf, e]
  · simp only [eOf, fvOf, e]
theorem ws_set {h' : HP} {k : Nat} {c : SC} (hk : sh[k]? = some c) (hh : ∀ a, a ≠ k → h' a = h a) : (wsOf cs ad h sh).set k (ad k, eOf cs ad h' k c) = wsOf cs ad h' sh := by
  refine List.ext_getElem? fun i => ?_
  have hl : k < (wsOf cs ad h sh).length := (List.getElem?_eq_some_iff.mp (ws_at (cs := cs) (ad := ad) (h := h) hk)).1
  by_cases hi : k = i
  · subst hi
    rw [List.getElem?_set_self hl, ws_at hk]
  · rw [List.getElem?_set_ne hi]
    simp only [wsOf, List.getElem?_mapIdx]
    cases hc : sh[i]? with
    | none => rfl
    | some c' => simp only [Option.map_some, eOf_congr (hh i (fun z => hi z.symm)) c']
theorem mapIdx_set {rs : List (Option (Option Nat))} {f g : Nat → Option (Option Nat) → Value} {j : Nat} {v : Value} (hj : j < rs.length) (hg : ∀ i r, i ≠ j → g i r = f i r) (hv : ∀ r, rs[j]? = some r → g j r = v) : (rs.mapIdx f).set j v = rs.mapIdx g := by
  refine List.ext_getElem? fun i => ?_
  by_cases hi : j = i
  · subst hi
    rw [List.getElem?_set_self (by simpa using hj), List.getElem?_mapIdx, List.getElem?_eq_getElem hj]
    simp [hv _ (List.getElem?_eq_getElem hj)]
  · rw [List.getElem?_set_ne hi, List.getElem?_mapIdx, List.getElem?_mapIdx]
    cases hc : rs[i]? with
    | none => rfl
    | some c' => simp [hg i c' (fun z => hi z.symm)]
def FOK (o i ci j : Nat) : Prop := ci < 12 ∧ j < NN ci ∧ Cond.fieldLink (RN o) i (TN ci j).1 (TN ci j).2.1 (TN ci j).2.2.1 ∈ TBL
theorem Wt.get {i ci j k : Nat} {rs : List (Option (Option Nat))} {r : Option (Option Nat)} {v : AV} (hf : FOK (mOwn mi) i ci j) (hk : sh[k]? = some (.inr (ci, rs))) (hr : rs[j]? = some r) (hv : ∀ ad, fvOf ad h k r j = cv ad v) (hok : wfC sh.length (.inr (ci, rs)) → okH h → okV sh.length v)
    (hd : decode (mCode mi) pc = .ok (.getfield i, 3)) (kk : Wt mi mc ms k0 s0 (pc + 3) L (v :: S) sh h P) : Wt mi mc ms k0 s0 pc L (.inr (.inr k) :: S) sh h P := by
  intro p l e R s m args below meth c D cs ad0 n0 rl ro A Q cx he H locs ad ls st hk0 hs0
  have ht := cx.2.2.2.2.2.1
  refine va_get (D := D) (cl := CL) (ci := ci) (v := cv ad v) (fs := rs.mapIdx (fun j r => fvOf ad h k r j)) (C := RN ci) (T := TN ci) (N := NN ci) cx.1 cx.2.1 ht (inN hf.1) cx.2.2.2.2.1 cx.2.2.2.2.2.2.2.1.1 st.1.1 k (ws_at hk) (CL_at hf.1) j hf.2.1 (ht _ hf.2.2) (fun _ h9 => h9) ?_ hd ?_
  · rw [List.getElem?_mapIdx, hr, ← hv ad]
    rfl
  · exact kk _ _ _ _ _ _ _ _ _ _ _ _ _ _ _ _ _ _ cx he _ _ _ _ (st.stack (ok_cons (hok (st.1.2.2 k _ hk) st.hok) (ok_tl st.sok))) hk0 hs0
theorem wt_getI {i ci j k : Nat} {rs : List (Option (Option Nat))} (hf : FOK (mOwn mi) i ci j) (hk : sh[k]? = some (.inr (ci, rs))) (hr : rs[j]? = some none)
    (hd : decode (mCode mi) pc = .ok (.getfield i, 3)) (kk : Wt mi mc ms k0 s0 (pc + 3) L (.inl (h k j) :: S) sh h P) : Wt mi mc ms k0 s0 pc L (.inr (.inr k) :: S) sh h P :=
  Wt.get (v := .inl (h k j)) hf hk hr (fun _ => rfl) (fun _ hh => hh k j) hd kk
theorem wt_getR {i ci j k q : Nat} {rs : List (Option (Option Nat))} (hf : FOK (mOwn mi) i ci j) (hk : sh[k]? = some (.inr (ci, rs))) (hr : rs[j]? = some (some (some q)))
    (hd : decode (mCode mi) pc = .ok (.getfield i, 3)) (kk : Wt mi mc ms k0 s0 (pc + 3) L (.inr (.inr q) :: S) sh h P) : Wt mi mc ms k0 s0 pc L (.inr (.inr k) :: S) sh h P :=
  Wt.get (v := .inr (.inr q)) hf hk hr (fun _ => rfl) (fun hw _ => hw.2.2 j q hr) hd kk
theorem SS.wrote {s : State} {locs locs1 : List Loc} {ls : Array Slot} {H1 : Heap} {h' : HP} {S' : List AV} (st : SS mi s D cs ad0 n0 ro A H locs ad ls L S sh h) (hP : va_P D CL (wsOf cs ad h' sh) H1) (hD : va_D A (wsOf cs ad h' sh)) (hS : va_S A s.heap H1 locs1) (hh : okH h') (hro : ∀ k, 1000 ≤ k → h' k = h k) (hS' : ∀ v ∈ S', okV sh.length v) : SS mi s D cs ad0 n0 ro A H1 locs1 ad ls L S' sh h' := by
  obtain ⟨a1, a2, a3, a4, a5, a6, a7, a8⟩ := st
  exact ⟨⟨hP, hD, a1.2.2⟩, hS, a3, a4, hS', hh, fun k hk => (hro k hk).trans (a7 k hk), a8⟩
theorem up_ne {k j : Nat} {x : Int} {a : Nat} (ha : a ≠ k) : up h k j x a = h a := by
  funext b
  simp [up, ha]
theorem up_eq {k j : Nat} {x : Int} : up h k j x k = fun b => if b = j then x else h k b := by
  funext b
  simp [up]
theorem wt_putI {i ci j k : Nat} {rs : List (Option (Option Nat))} {x : Int} (hf : FOK (mOwn mi) i ci j) (hty : tyN ci j = .int) (hfin : (TN ci j).2.2.2 = false) (hk : sh[k]? = some (.inr (ci, rs))) (hr : rs[j]? = some none)
    (hd : decode (mCode mi) pc = .ok (.putfield i, 3)) (kk : Wt mi mc ms k0 s0 (pc + 3) L S sh (up h k j x) P) : Wt mi mc ms k0 s0 pc L (.inl x :: .inr (.inr k) :: S) sh h P := by
  intro p l e R s m args below meth c D cs ad0 n0 rl ro A Q cx he H locs ad ls st hk0 hs0
  have ht := cx.2.2.2.2.2.1
  have hw : wfC sh.length (.inr (ci, rs)) := st.1.2.2 k _ hk
  have hl : j < rs.length := by rw [hw.2.1]; exact hf.2.1
  have hx : inR x := ok_hd st.sok
  have hk1 : k < 1000 := Nat.lt_of_lt_of_le (List.getElem?_eq_some_iff.mp hk).1 st.2.2.2.2.2.2.2.2.1
  refine va_put (D := D) (cl := CL) (ci := ci) (v := cv ad (.inl x)) (ty := .int) (fs := rs.mapIdx (fun j r => fvOf ad h k r j)) (C := RN ci) (T := TN ci) (N := NN ci) cx.1 cx.2.1 ht (inN hf.1) (tyN ci) (tyN_ok hf.1) (nmN hf.1) cx.2.2.2.2.1 cx.2.2.2.2.2.2.2.1.1 st.1.1 st.1.2.1 st.2.1 k (ws_at hk) (CL_at hf.1) j hf.2.1 (ht _ hf.2.2) (fun _ h9 => h9) hfin (by rw [tyN_ok hf.1 j hf.2.1, hty]) rfl rfl (by simpa using hl) hd (fun H1 locs1 hP hD hS => ?_)
  have e1 : (rs.mapIdx (fun j r => fvOf ad h k r j)).set j (cv ad (.inl x)) = rs.mapIdx (fun j' r => fvOf ad (up h k j x) k r j') := by
    refine mapIdx_set hl (fun i r hi => ?_) (fun r hr' => ?_)
    · obtain _ | _ | q := r
      · show Value.int _ = Value.int _
        rw [show up h k j x k i = h k i by simp [up, hi]]
      · rfl
      · rfl
    · rw [hr] at hr'
      cases hr'
      show Value.int _ = Value.int _
      rw [show up h k j x k j = x by simp [up]]
  have e2 : ((wsOf cs ad h sh).set k (ad k, .inr (ci, (rs.mapIdx (fun j r => fvOf ad h k r j)).set j (cv ad (.inl x))))) = wsOf cs ad (up h k j x) sh := by
    rw [e1]
    exact ws_set hk (fun a ha => up_ne ha)
  rw [e2] at hP hD
  exact kk _ _ _ _ _ _ _ _ _ _ _ _ _ _ _ _ _ _ cx he _ _ _ _ (st.wrote hP hD hS (okH_up st.hok k j hx) (fun a ha => up_ne (by omega)) (ok_tl (ok_tl st.sok))) hk0 hs0
-- arrays
theorem K_int {tys : List (ClassId × FieldType)} : (tysOf cs)[0]? = some (cs 0, .int) := rfl
theorem wt_iaload {k n : Nat} {x : Int} (hk : sh[k]? = some (.inl (0, n))) (h0 : 0 ≤ x) (h1 : x < n) (hd : decode (mCode mi) pc = .ok (.iaload, 1)) (kk : Wt mi mc ms k0 s0 (pc + 1) L (.inl (h k x.toNat) :: S) sh h P) : Wt mi mc ms k0 s0 pc L (.inl x :: .inr (.inr k) :: S) sh h P := by
  intro p l e R s m args below meth c D cs ad0 n0 rl ro A Q cx he H locs ad ls st hk0 hs0
  have hx : inR x := ok_hd st.sok
  refine va_iald cx.1 cx.2.1 cx.2.2.2.2.2.2.2.1.1 st.1.1 k 0 (f := fun j => Int32.ofInt (h k j)) (by rw [ws_at hk]; rfl) rfl (ofI_vp hx h0 h1) hd ?_
  rw [ofI_cl hx]
  exact kk _ _ _ _ _ _ _ _ _ _ _ _ _ _ _ _ _ _ cx he _ _ _ _ (st.stack (ok_cons (st.hok k x.toNat) (ok_tl (ok_tl st.sok)))) hk0 hs0
theorem wt_baload {k n : Nat} {x : Int} (hk : sh[k]? = some (.inl (1, n))) (h0 : 0 ≤ x) (h1 : x < n) (hd : decode (mCode mi) pc = .ok (.baload, 1)) (kk : Wt mi mc ms k0 s0 (pc + 1) L (.inl (h k x.toNat) :: S) sh h P) : Wt mi mc ms k0 s0 pc L (.inl x :: .inr (.inr k) :: S) sh h P := by
  intro p l e R s m args below meth c D cs ad0 n0 rl ro A Q cx he H locs ad ls st hk0 hs0
  have hx : inR x := ok_hd st.sok
  refine va_zald cx.1 cx.2.1 cx.2.2.2.2.2.2.2.1.1 st.1.1 k 1 (f := fun j => Int32.ofInt (h k j)) (by rw [ws_at hk]; rfl) rfl (ofI_vp hx h0 h1) hd ?_
  rw [ofI_cl hx]
  exact kk _ _ _ _ _ _ _ _ _ _ _ _ _ _ _ _ _ _ cx he _ _ _ _ (st.stack (ok_cons (st.hok k x.toNat) (ok_tl (ok_tl st.sok)))) hk0 hs0
theorem wt_laload {k n : Nat} {x : Int} (hk : sh[k]? = some (.inl (2, n))) (h0 : 0 ≤ x) (h1 : x < n) (hd : decode (mCode mi) pc = .ok (.laload, 1)) (kk : Wt mi mc ms k0 s0 (pc + 1) L (.inr (.inl (Int64.ofInt (h k x.toNat))) :: S) sh h P) : Wt mi mc ms k0 s0 pc L (.inl x :: .inr (.inr k) :: S) sh h P := by
  intro p l e R s m args below meth c D cs ad0 n0 rl ro A Q cx he H locs ad ls st hk0 hs0
  have hx : inR x := ok_hd st.sok
  refine va_lald cx.1 cx.2.1 cx.2.2.2.2.2.2.2.1.1 st.1.1 k 2 (f := fun j => Int64.ofInt (h k j)) (by rw [ws_at hk]; rfl) rfl (ofI_vp hx h0 h1) hd ?_
  rw [ofI_cl hx]
  exact kk _ _ _ _ _ _ _ _ _ _ _ _ _ _ _ _ _ _ cx he _ _ _ _ (st.stack (ok_J (ok_tl (ok_tl st.sok)))) hk0 hs0
theorem upd_of {f : HP} {k j : Nat} {x : Int} : upd (fun b => Int32.ofInt (f k b)) j (Int32.ofInt x) = fun b => Int32.ofInt (up f k j x k b) := by
  funext b
  by_cases hb : b = j
  · simp [upd, up, hb]
  · simp [upd, up, hb]
theorem wt_iastore {k n : Nat} {x y : Int} (hk : sh[k]? = some (.inl (0, n))) (h0 : 0 ≤ x) (h1 : x < n) (hd : decode (mCode mi) pc = .ok (.iastore, 1)) (kk : Wt mi mc ms k0 s0 (pc + 1) L S sh (up h k x.toNat y) P) : Wt mi mc ms k0 s0 pc L (.inl y :: .inl x :: .inr (.inr k) :: S) sh h P := by
  intro p l e R s m args below meth c D cs ad0 n0 rl ro A Q cx he H locs ad ls st hk0 hs0
  have hy : inR y := ok_hd st.sok
  have hx : inR x := ok_hd (ok_tl st.sok)
  have hk1 : k < 1000 := Nat.lt_of_lt_of_le (List.getElem?_eq_some_iff.mp hk).1 st.2.2.2.2.2.2.2.2.1
  refine va_iast cx.1 cx.2.1 cx.2.2.2.2.2.2.2.1.1 st.1.1 st.1.2.1 st.2.1 k 0 (f := fun j => Int32.ofInt (h k j)) (by rw [ws_at hk]; rfl) rfl (ofI_vp hx h0 h1) hd (fun H1 locs1 hP hD hS => ?_)
  rw [ofI_cl hx, upd_of] at hP hD
  have e2 : ((wsOf cs ad h sh).set k (ad k, .inl (cs 0, n, .inl (fun b => Int32.ofInt (up h k x.toNat y k b))))) = wsOf cs ad (up h k x.toNat y) sh := ws_set hk (fun a ha => up_ne ha)
  rw [e2] at hP hD
  exact kk _ _ _ _ _ _ _ _ _ _ _ _ _ _ _ _ _ _ cx he _ _ _ _ (st.wrote hP hD hS (okH_up st.hok k _ hy) (fun a ha => up_ne (by omega)) (ok_tl (ok_tl (ok_tl st.sok)))) hk0 hs0
theorem narZ {y : Int} (hy : y = 0 ∨ y = 1) : vp_nar .boolean (Int32.ofInt y) = Int32.ofInt y := by
  rcases hy with rfl | rfl <;> decide
theorem wt_bastore {k n : Nat} {x y : Int} (hk : sh[k]? = some (.inl (1, n))) (h0 : 0 ≤ x) (h1 : x < n) (hy01 : y = 0 ∨ y = 1) (hd : decode (mCode mi) pc = .ok (.bastore, 1)) (kk : Wt mi mc ms k0 s0 (pc + 1) L S sh (up h k x.toNat y) P) : Wt mi mc ms k0 s0 pc L (.inl y :: .inl x :: .inr (.inr k) :: S) sh h P := by
  intro p l e R s m args below meth c D cs ad0 n0 rl ro A Q cx he H locs ad ls st hk0 hs0
  have hy : inR y := ok_hd st.sok
  have hx : inR x := ok_hd (ok_tl st.sok)
  have hk1 : k < 1000 := Nat.lt_of_lt_of_le (List.getElem?_eq_some_iff.mp hk).1 st.2.2.2.2.2.2.2.2.1
  refine va_zast cx.1 cx.2.1 cx.2.2.2.2.2.2.2.1.1 st.1.1 st.1.2.1 st.2.1 k 1 (f := fun j => Int32.ofInt (h k j)) (by rw [ws_at hk]; rfl) rfl (ofI_vp hx h0 h1) hd (fun H1 locs1 hP hD hS => ?_)
  rw [ofI_cl hx, narZ hy01, upd_of] at hP hD
  have e2 : ((wsOf cs ad h sh).set k (ad k, .inl (cs 1, n, .inl (fun b => Int32.ofInt (up h k x.toNat y k b))))) = wsOf cs ad (up h k x.toNat y) sh := ws_set hk (fun a ha => up_ne ha)
  rw [e2] at hP hD
  exact kk _ _ _ _ _ _ _ _ _ _ _ _ _ _ _ _ _ _ cx he _ _ _ _ (st.wrote hP hD hS (okH_up st.hok k _ hy) (fun a ha => up_ne (by omega)) (ok_tl (ok_tl (ok_tl st.sok)))) hk0 hs0
theorem wt_ialoadR {k : Nat} {x : Int} (hk : 1001 ≤ k ∧ k ≤ 1003) (h0 : 0 ≤ x) (h1 : x < 9) (hd : decode (mCode mi) pc = .ok (.iaload, 1)) (kk : Wt mi mc ms k0 s0 (pc + 1) L (.inl (h k x.toNat) :: S) sh h P) : Wt mi mc ms k0 s0 pc L (.inl x :: .inr (.inr k) :: S) sh h P := by
  intro p l e R s m args below meth c D cs ad0 n0 rl ro A Q cx he H locs ad ls st hk0 hs0
  have hx : inR x := ok_hd st.sok
  have hT := cx.2.2.2.2.2.2.2.1.2.1 k (by omega) hk.2
  have hro : h k = ro k := st.2.2.2.2.2.2.1 k (by omega)
  have hL : roL (ro 1004 0).toNat k = 9 := by unfold roL; rw [if_neg (by omega)]
  rw [hL] at hT
  show W p l e R s m args below meth c H locs k0 s0 Q (F0 m pc ls (.int (Int32.ofInt x) :: .ref (ad k) :: S.map (cv ad)))
  rw [st.2.2.2.2.2.2.2.2.2 k (Or.inr (by omega))]
  refine va_ti cx.1 cx.2.1 hT st.2.1 (ofI_vp hx h0 h1) (v := cv ad (.inl (h k x.toNat))) (by rw [ofI_cl hx, hro]; rfl) hd ?_
  exact kk _ _ _ _ _ _ _ _ _ _ _ _ _ _ _ _ _ _ cx he _ _ _ _ (st.stack (ok_cons (st.hok k x.toNat) (ok_tl (ok_tl st.sok)))) hk0 hs0
theorem wt_alenR {k : Nat} (hk : 1001 ≤ k ∧ k ≤ 1003) (hd : decode (mCode mi) pc = .ok (.arraylength, 1)) (kk : Wt mi mc ms k0 s0 (pc + 1) L (.inl 9 :: S) sh h P) : Wt mi mc ms k0 s0 pc L (.inr (.inr k) :: S) sh h P := by
  intro p l e R s m args below meth c D cs ad0 n0 rl ro A Q cx he H locs ad ls st hk0 hs0
  have hT := cx.2.2.2.2.2.2.2.1.2.1 k (by omega) hk.2
  have hL : roL (ro 1004 0).toNat k = 9 := by unfold roL; rw [if_neg (by omega)]
  rw [hL] at hT
  show W p l e R s m args below meth c H locs k0 s0 Q (F0 m pc ls (.ref (ad k) :: S.map (cv ad)))
  rw [st.2.2.2.2.2.2.2.2.2 k (Or.inr (by omega))]
  refine va_tlen cx.1 cx.2.1 hT st.2.1 (v := Int32.ofInt 9) (by decide) hd ?_
  exact kk _ _ _ _ _ _ _ _ _ _ _ _ _ _ _ _ _ _ cx he _ _ _ _ (st.stack (ok_I ⟨by decide, by decide⟩ (ok_tl st.sok))) hk0 hs0
theorem wt_gets {i k : Nat} (hk : 1001 ≤ k ∧ k ≤ 1003) (hw : Cond.fieldLink (RN (mOwn mi)) i RX10 (roN k) "[I" ∈ TBL) (hd : decode (mCode mi) pc = .ok (.getstatic i, 3)) (kk : Wt mi mc ms k0 s0 (pc + 3) L (.inr (.inr k) :: S) sh h P) : Wt mi mc ms k0 s0 pc L S sh h P := by
  intro p l e R s m args below meth c D cs ad0 n0 rl ro A Q cx he H locs ad ls st hk0 hs0
  refine va_gets cx.1 cx.2.1 (cx.2.2.2.2.2.2.2.1.2.2.1 k hk.1 hk.2) st.2.1 cx.2.2.2.2.1 (cx.2.2.2.2.2.1 _ hw) (fun _ h9 => h9) hd ?_
  rw [← st.2.2.2.2.2.2.2.2.2 k (Or.inr (by omega))]
  exact kk _ _ _ _ _ _ _ _ _ _ _ _ _ _ _ _ _ _ cx he _ _ _ _ (st.stack (ok_cons (v := .inr (.inr k)) (Or.inr (by omega)) st.sok)) hk0 hs0
end
