-- the worlds
def fvOf (ad : Nat → Nat) (h : HP) (k : Nat) (r : Option (Option Nat)) (j : Nat) : Value := match r with
  | none => .int (Int32.ofInt (h k j))
  | some none => .null
  | some (some q) => .ref (ad q)
def eOf (cs : Nat → ClassId) (ad : Nat → Nat) (h : HP) (k : Nat) (c : SC) : va_E := match c with
  | .inl (t, n) => .inl (cs t, n, if t = 2 then .inr (.inl (fun j => Int64.ofInt (h k j))) else .inl (fun j => Int32.ofInt (h k j)))
  | .inr (ci, rs) => .inr (ci, rs.mapIdx (fun j r => fvOf ad h k r j))
def wsOf (cs : Nat → ClassId) (ad : Nat → Nat) (h : HP) (sh : SH) : va_W := sh.mapIdx (fun k c => (ad k, eOf cs ad h k c))
def tysOf (cs : Nat → ClassId) : List (ClassId × FieldType) := [(cs 0, .int), (cs 1, .boolean), (cs 2, .long)]
def wfC (n : Nat) (c : SC) : Prop := match c with
  | .inl (t, m) => t ≤ 2 ∧ m < 2147483648
  | .inr (ci, rs) => ci < 12 ∧ rs.length = NN ci ∧ ∀ (j q : Nat), rs[j]? = some (some (some q)) → q < n ∨ 1000 ≤ q
def RpD (D : va_G) (cs : Nat → ClassId) (ad : Nat → Nat) (A : Nat → Prop) (sh : SH) (h : HP) (H : Heap) : Prop :=
  va_P D CL (wsOf cs ad h sh) H ∧ va_D A (wsOf cs ad h sh) ∧ ∀ (k : Nat) (c : SC), sh[k]? = some c → wfC sh.length c
def roN (k : Nat) : String := match k with
  | 1001 => "SETTING_FIRST" | 1002 => "SETTING_LEAST" | _ => "SETTING_MOST"
def roL (rl k : Nat) : Nat := if k = 1000 then rl else 9
/-- where a static field lies, and that it holds null or a reference -/
def stL (C n d : String) (A : Nat → Prop) (U : State) (H : Heap) : Prop := ∃ (c : ClassId) (k : Class) (i : Nat) (f : Field) (a : Nat) (cell : Cell), (U.vm.findClass C = some c ∧ U.fieldFound? C n d = some (c, k, i, f) ∧ f.isStatic = true ∧ k.statics = some a ∧ k.staticTypes[f.slot]? = some f.type) ∧ (H[a]? = some cell ∧ cell.vm.isStatics = true ∧ cell.cls = c ∧ f.slot < cell.slots.size) ∧ ¬ A a
def stQ (n d : String) (A : Nat → Prop) (U : State) (H : Heap) : Prop := va_Zq Bundle.tN n d A U H ∧ stL Bundle.tN n d A U H
theorem stQ.moved {n d : String} {A : Nat → Prop} {u U : State} {H : Heap} (hvm : u.vm.Alike U.vm) (h : stQ n d A u H) : stQ n d A U H := by
  refine ⟨va_Zq.moved hvm h.1, ?_⟩
  obtain ⟨c, k, i, f, a, cell, ⟨h1, h2, h3, h4, h5⟩, h6, h7⟩ := h.2
  obtain ⟨k', hi', he⟩ := State.fieldFound?_setVm hvm h2
  exact ⟨c, k', i, f, a, cell, ⟨by rw [hvm.findClass]; exact h1, hi', h3, by rw [he]; exact h4, by rw [he]; exact h5⟩, h6, h7⟩
theorem stQ.kept {n d : String} {A : Nat → Prop} {U : State} {H H1 : Heap} (h : stQ n d A U H) (hq : ∀ a : Nat, a < H.size → ¬ A a → H1[a]? = H[a]?) : stQ n d A U H1 := by
  refine ⟨va_Zq.kept h.1 hq, ?_⟩
  obtain ⟨c, k, i, f, a, cell, h1, ⟨h5, h6⟩, h7⟩ := h.2
  exact ⟨c, k, i, f, a, cell, h1, ⟨by rw [hq a (Array.getElem?_eq_some_iff.mp h5).1 h7]; exact h5, h6⟩, h7⟩
theorem stQ.narrow {n d : String} {A B : Nat → Prop} {U : State} {H : Heap} (h : stQ n d A U H) (hAB : ∀ q, B q → A q) : stQ n d B U H := by
  refine ⟨va_Zq.narrow h.1 hAB, ?_⟩
  obtain ⟨c, k, i, f, a, cell, h1, h5, h7⟩ := h.2
  exact ⟨c, k, i, f, a, cell, h1, h5, fun z => h7 (hAB _ z)⟩
def txt (U : State) : Prop := ∃ a, vk_R RX10 248 "no such letters" a U
def XZ (A : Nat → Prop) (U : State) (H : Heap) : Prop := stQ "UNASSIGNED_STACK" Bundle.steD A U H ∧ stQ "SUPPRESSED_SENTINEL" Bundle.listD A U H
def RpS (D : va_G) (cs : Nat → ClassId) (ad : Nat → Nat) (rl : Nat) (ro : HP) (A : Nat → Prop) (U : State) (H : Heap) : Prop :=
  va_K D CL (tysOf cs) U ∧ (∀ k, 1000 ≤ k → k ≤ 1003 → va_T .int (ad k) (roL (ro 1004 0).toNat k) (fun j => .int (Int32.ofInt (ro k j))) A U H) ∧ (∀ k, 1001 ≤ k → k ≤ 1003 → va_Z RX10 (roN k) "[I" (.ref (ad k)) A U H) ∧ (∀ w ∈ NWL, va_Nw w U) ∧ txt U ∧ XZ A U H
def AA (ad : Nat → Nat) (n sz : Nat) : Nat → Prop := fun q => (∃ k, k < n ∧ q = ad k) ∨ sz ≤ q
def CX (mi : MI) (mc ms : Nat) (p : Program) (R : Room) (s : State) (m : MethodId) (args : Array Value) (meth : Method) (c : Code) (D : va_G) (cs : Nat → ClassId) (ad0 : Nat → Nat) (rl : Nat) (ro : HP) (A : Nat → Prop) : Prop :=
  p.tables.exec = Jvm.exec ∧ c.code = mCode mi ∧ meth.sig.returnType = mRet mi ∧ c.maxLocals = mMaxL mi ∧ s.vm.findClass (RN (mOwn mi)) = some m.cls ∧ (∀ w ∈ TBL, w.before args s = true) ∧ meth.locks = false ∧ RpS D cs ad0 rl ro A s s.heap ∧ (∀ q, s.heap.size ≤ q → A q) ∧ mFr mi ≤ R.frames ∧ mLo mi ≤ R.locals ∧ mc ≤ R.cells ∧ ms ≤ R.slots ∧ meth.name = (mName mi).name
def Lr (ls : Array Slot) (nL : Nat) (ad : Nat → Nat) (L : List (Option AV)) : Prop := ls.size = nL ∧ lv_wf ls ∧ ∀ (i : Nat) (v : AV), L[i]? = some (some v) → ls[i]? = some (Slot.val (cv ad v))
def SS (mi : MI) (s : State) (D : va_G) (cs : Nat → ClassId) (ad0 : Nat → Nat) (n0 : Nat) (ro : HP) (A : Nat → Prop) (H : Heap) (locs : List Loc) (ad : Nat → Nat) (ls : Array Slot) (L : List (Option AV)) (S : List AV) (sh : SH) (h : HP) : Prop :=
  RpD D cs ad A sh h H ∧ va_S A s.heap H locs ∧ Lr ls (mMaxL mi) ad L ∧ (∀ (i : Nat) v, L[i]? = some (some v) → okV sh.length v) ∧ (∀ v ∈ S, okV sh.length v) ∧ okH h ∧ (∀ k, 1000 ≤ k → h k = ro k) ∧ n0 ≤ sh.length ∧ sh.length ≤ 1000 ∧ ∀ k, k < n0 ∨ 1000 ≤ k → ad k = ad0 k
def rOK (mi : MI) (pc : Nat) (v : Option AV) : Prop := match v with
  | none => mRet mi = none ∧ decode (mCode mi) pc = .ok (.return_, 1)
  | some (.inl x) => decode (mCode mi) pc = .ok (.ireturn, 1) ∧ (mRet mi = some .int ∨ (mRet mi = some .boolean ∧ (x = 0 ∨ x = 1)))
  | _ => False
def EN (mi : MI) (mc ms : Nat) (p : Program) (l : Launch) (e : Env) (R : Room) (s : State) (m : MethodId) (args : Array Value) (below : List Frame) (meth : Method) (c : Code) (D : va_G) (cs : Nat → ClassId) (ad0 : Nat → Nat) (n0 : Nat) (ro : HP) (A : Nat → Prop) (Q : State → Prop) (P : Option AV → SH → HP → Prop) : Prop :=
  l.stackTraces = false ∧ ∀ (pc : Nat) (L : List (Option AV)) (v : Option AV) (sh : SH) (h : HP) (H : Heap) (locs : List Loc) (ad : Nat → Nat) (ls : Array Slot) (k0 s0 : Nat), rOK mi pc v → P v sh h → SS mi s D cs ad0 n0 ro A H locs ad ls L v.toList sh h → k0 ≤ mc → s0 ≤ ms → W p l e R s m args below meth c H locs k0 s0 Q (F0 m pc ls (v.toList.map (cv ad)))
/-- from this place of the method it comes to its end, and P holds there -/
def Wt (mi : MI) (mc ms k0 s0 pc : Nat) (L : List (Option AV)) (S : List AV) (sh : SH) (h : HP) (P : Option AV → SH → HP → Prop) : Prop :=
  ∀ (p : Program) (l : Launch) (e : Env) (R : Room) (s : State) (m : MethodId) (args : Array Value) (below : List Frame) (meth : Method) (c : Code) (D : va_G) (cs : Nat → ClassId) (ad0 : Nat → Nat) (n0 rl : Nat) (ro : HP) (A : Nat → Prop) (Q : State → Prop),
    CX mi mc ms p R s m args meth c D cs ad0 rl ro A → EN mi mc ms p l e R s m args below meth c D cs ad0 n0 ro A Q P →
    ∀ (H : Heap) (locs : List Loc) (ad : Nat → Nat) (ls : Array Slot), SS mi s D cs ad0 n0 ro A H locs ad ls L S sh h → k0 ≤ mc → s0 ≤ ms → W p l e R s m args below meth c H locs k0 s0 Q (F0 m pc ls (S.map (cv ad)))
/-- a method, called with these values over this shape and what it holds: it returns, and P holds of its answer and of what is held then -/
def wsM (mi : MI) : List Cond := Cond.code (mName mi) (mCode mi) (mMaxL mi) (mRet mi) :: TBL
def Tr (mi : MI) (mc ms : Nat) (as : List AV) (sh : SH) (h : HP) (P : Option AV → SH → HP → Prop) : Prop :=
  ∀ (l : Launch) (D : va_G) (cs : Nat → ClassId) (ad : Nat → Nat) (rl : Nat) (ro : HP) (sz : Nat), l.stackTraces = false → (∀ v ∈ as, okV sh.length v) → okH h → (∀ k, 1000 ≤ k → h k = ro k) → sh.length ≤ 1000 →
  Met l (mName mi) (wsM mi) { frames := mFr mi, cells := mc, slots := ms, locals := mLo mi }
   (fun v U => v = (as.map (cv ad)).toArray ∧ U.heap.size = sz ∧ RpD D cs ad (AA ad sh.length sz) sh h U.heap ∧ RpS D cs ad rl ro (AA ad sh.length sz) U U.heap)
   (fun _ st o t => (∃ v sh' h' ad', o = .returned (v.map (cv ad')) ∧ P v sh' h' ∧ okH h' ∧ (∀ x ∈ v, okV sh'.length x) ∧ (∀ k, 1000 ≤ k → h' k = ro k) ∧ sh.length ≤ sh'.length ∧ sh'.length ≤ 1000 ∧ (∀ k, k < sh.length ∨ 1000 ≤ k → ad' k = ad k) ∧ RpD D cs ad' (AA ad sh.length sz) sh' h' t.heap) ∧ va_F (AA ad sh.length sz) st t)
   mc ms (AA ad sh.length sz)
