/-! the constructors -/
def Zr (n : Nat) (h : HP) : Prop := ∀ k, n ≤ k → k < 1000 → ∀ j, h k j = 0
theorem Zr.le {n n' : Nat} {h : HP} (hz : Zr n h) (hn : n ≤ n') : Zr n' h := fun k h1 h2 j => hz k (by omega) h2 j
theorem Zr.up {n k j : Nat} {x : Int} {h : HP} (hz : Zr n h) (hk : k < n) : Zr n (up h k j x) := fun a h1 h2 b => by
  rw [up_n (by omega)]
  exact hz a h1 h2 b
theorem Zr.cpy {n ks kd sp dp m : Nat} {h : HP} (hz : Zr n h) (hk : kd < n) : Zr n (cpy h ks kd sp dp m) := fun a h1 h2 b => by
  rw [cpy_ne (by omega)]
  exact hz a h1 h2 b
section
variable {mi : MI} {mc ms k0 s0 pc n : Nat} {L : List (Option AV)} {S : List AV} {sh : SH} {h : HP} {P : Option AV → SH → HP → Prop}
theorem wt_newn {i ci : Nat} {sh' : SH} (hn : sh.length = n) (h12 : ci < 12) (hcl : Cond.classLink (RN (mOwn mi)) i (RN ci) ∈ TBL) (hinst : Cond.instantiable (RN ci) (NN ci) ∈ TBL) (hini : Cond.initialized (RN ci) ∈ TBL) (hz : ∀ j, h n j = 0) (hlen : n < 1000) (hk1 : k0 + 1 ≤ mc) (hs1 : s0 + NN ci ≤ ms) (hd : decode (mCode mi) pc = .ok (.new i, 3)) (e : sh ++ [.inr (ci, dflC ci)] = sh') (kk : Wt mi mc ms (k0 + 1) (s0 + NN ci) (pc + 3) L (.inr (.inr n) :: S) sh' h P) : Wt mi mc ms k0 s0 pc L S sh h P := by
  subst hn
  exact wt_new h12 hcl hinst hini hz hlen hk1 hs1 hd e kk
theorem wt_newIn {N : Nat} {x : Int} {sh' : SH} (hn : sh.length = n) (hx : x = N) (hN : N < 100000) (hz : ∀ j, h n j = 0) (hlen : n < 1000) (hk1 : k0 + 1 ≤ mc) (hs1 : s0 + N ≤ ms) (hd : decode (mCode mi) pc = .ok (.newarray .int, 2)) (e : sh ++ [.inl (0, N)] = sh') (kk : Wt mi mc ms (k0 + 1) (s0 + N) (pc + 2) L (.inr (.inr n) :: S) sh' h P) : Wt mi mc ms k0 s0 pc L (.inl x :: S) sh h P := by
  subst hn
  exact wt_newI hx hN hz hlen hk1 hs1 hd e kk
theorem wt_newZn {N : Nat} {x : Int} {sh' : SH} (hn : sh.length = n) (hx : x = N) (hN : N < 100000) (hz : ∀ j, h n j = 0) (hlen : n < 1000) (hk1 : k0 + 1 ≤ mc) (hs1 : s0 + N ≤ ms) (hd : decode (mCode mi) pc = .ok (.newarray .boolean, 2)) (e : sh ++ [.inl (1, N)] = sh') (kk : Wt mi mc ms (k0 + 1) (s0 + N) (pc + 2) L (.inr (.inr n) :: S) sh' h P) : Wt mi mc ms k0 s0 pc L (.inl x :: S) sh h P := by
  subst hn
  exact wt_newZ hx hN hz hlen hk1 hs1 hd e kk
theorem wt_newJn {N : Nat} {x : Int} {sh' : SH} (hn : sh.length = n) (hx : x = N) (hN : N < 100000) (hz : ∀ j, h n j = 0) (hlen : n < 1000) (hk1 : k0 + 1 ≤ mc) (hs1 : s0 + N ≤ ms) (hd : decode (mCode mi) pc = .ok (.newarray .long, 2)) (e : sh ++ [.inl (2, N)] = sh') (kk : Wt mi mc ms (k0 + 1) (s0 + N) (pc + 2) L (.inr (.inr n) :: S) sh' h P) : Wt mi mc ms k0 s0 pc L (.inl x :: S) sh h P := by
  subst hn
  exact wt_newJ hx hN hz hlen hk1 hs1 hd e kk
end
theorem in_obj : Cond.instanceMethod objectInit ∈ TBL ∧ Cond.code objectInit ⟨#[0xb1]⟩ 1 none ∈ TBL := ⟨(mem_TBL (List.mem_of_getElem? (i := 74) (by decide +kernel)) rfl), (mem_TBL (List.mem_of_getElem? (i := 75) (by decide +kernel)) rfl)⟩
def ShC0 : SH := []
def ShC1 : SH := ShC0 ++ [.inr (10, dflC 10)]
def ShC2 : SH := ShC1 ++ [.inl (0, 80)]
def ShC3 : SH := ShC2.set 0 (.inr (10, ([some none, none, some none, some none, some none, some none, some none, some none, some none, some none, some none, some none, some none] : List (Option (Option Nat))).set 0 (some (some 1))))
def ShC4 : SH := ShC3 ++ [.inl (0, 12)]
def ShC5 : SH := ShC4.set 0 (.inr (10, ([some (some 1), none, some none, some none, some none, some none, some none, some none, some none, some none, some none, some none, some none] : List (Option (Option Nat))).set 2 (some (some 2))))
def ShC6 : SH := ShC5 ++ [.inr (7, dflC 7)]
def ShC7 : SH := ShC6 ++ [.inl (0, 9)]
def ShC8 : SH := ShC7.set 3 (.inr (7, ([some none, some none] : List (Option (Option Nat))).set 0 (some (some 4))))
def ShC9 : SH := ShC8 ++ [.inl (1, 676)]
def ShC10 : SH := ShC9.set 3 (.inr (7, ([some (some 4), some none] : List (Option (Option Nat))).set 1 (some (some 5))))
def ShC11 : SH := ShC10.set 0 (.inr (10, ([some (some 1), none, some (some 2), some none, some none, some none, some none, some none, some none, some none, some none, some none, some none] : List (Option (Option Nat))).set 3 (some (some 3))))
def ShC12 : SH := ShC11 ++ [.inr (2, dflC 2)]
def ShC13 : SH := ShC12 ++ [.inl (0, 1080)]
def ShC14 : SH := ShC13.set 6 (.inr (2, ([some none, some none, some none, none] : List (Option (Option Nat))).set 0 (some (some 7))))
def ShC15 : SH := ShC14 ++ [.inl (0, 90)]
def ShC16 : SH := ShC15.set 6 (.inr (2, ([some (some 7), some none, some none, none] : List (Option (Option Nat))).set 1 (some (some 8))))
def ShC17 : SH := ShC16 ++ [.inl (0, 90)]
def ShC18 : SH := ShC17.set 6 (.inr (2, ([some (some 7), some (some 8), some none, none] : List (Option (Option Nat))).set 2 (some (some 9))))
def ShC19 : SH := ShC18.set 0 (.inr (10, ([some (some 1), none, some (some 2), some (some 3), some none, some none, some none, some none, some none, some none, some none, some none, some none] : List (Option (Option Nat))).set 4 (some (some 6))))
def ShC20 : SH := ShC19 ++ [.inr (9, dflC 9)]
def ShC21 : SH := ShC20 ++ [.inl (0, 60)]
def ShC22 : SH := ShC21.set 10 (.inr (9, ([some none, some none, some none, some none, none] : List (Option (Option Nat))).set 0 (some (some 11))))
def ShC23 : SH := ShC22 ++ [.inl (0, 60)]
def ShC24 : SH := ShC23.set 10 (.inr (9, ([some (some 11), some none, some none, some none, none] : List (Option (Option Nat))).set 1 (some (some 12))))
def ShC25 : SH := ShC24 ++ [.inl (1, 60)]
def ShC26 : SH := ShC25.set 10 (.inr (9, ([some (some 11), some (some 12), some none, some none, none] : List (Option (Option Nat))).set 2 (some (some 13))))
def ShC27 : SH := ShC26 ++ [.inl (1, 60)]
def ShC28 : SH := ShC27.set 10 (.inr (9, ([some (some 11), some (some 12), some (some 13), some none, none] : List (Option (Option Nat))).set 3 (some (some 14))))
def ShC29 : SH := ShC28.set 0 (.inr (10, ([some (some 1), none, some (some 2), some (some 3), some (some 6), some none, some none, some none, some none, some none, some none, some none, some none] : List (Option (Option Nat))).set 5 (some (some 10))))
def ShC30 : SH := ShC29 ++ [.inr (6, dflC 6)]
def ShC31 : SH := ShC30 ++ [.inl (0, 40)]
def ShC32 : SH := ShC31.set 15 (.inr (6, ([some none, some none, some none, none] : List (Option (Option Nat))).set 0 (some (some 16))))
def ShC33 : SH := ShC32 ++ [.inl (0, 40)]
def ShC34 : SH := ShC33.set 15 (.inr (6, ([some (some 16), some none, some none, none] : List (Option (Option Nat))).set 1 (some (some 17))))
def ShC35 : SH := ShC34 ++ [.inl (0, 160)]
def ShC36 : SH := ShC35.set 15 (.inr (6, ([some (some 16), some (some 17), some none, none] : List (Option (Option Nat))).set 2 (some (some 18))))
def ShC37 : SH := ShC36.set 0 (.inr (10, ([some (some 1), none, some (some 2), some (some 3), some (some 6), some (some 10), some none, some none, some none, some none, some none, some none, some none] : List (Option (Option Nat))).set 6 (some (some 15))))
def ShC38 : SH := ShC37 ++ [.inr (0, dflC 0)]
def ShC39 : SH := ShC38 ++ [.inl (0, 92)]
def ShC40 : SH := ShC39.set 19 (.inr (0, ([some none, some none, some none, some none, none, none, none] : List (Option (Option Nat))).set 0 (some (some 20))))
def ShC41 : SH := ShC40 ++ [.inl (0, 92)]
def ShC42 : SH := ShC41.set 19 (.inr (0, ([some (some 20), some none, some none, some none, none, none, none] : List (Option (Option Nat))).set 1 (some (some 21))))
def ShC43 : SH := ShC42 ++ [.inl (0, 10)]
def ShC44 : SH := ShC43.set 19 (.inr (0, ([some (some 20), some (some 21), some none, some none, none, none, none] : List (Option (Option Nat))).set 2 (some (some 22))))
def ShC45 : SH := ShC44 ++ [.inl (0, 10)]
def ShC46 : SH := ShC45.set 19 (.inr (0, ([some (some 20), some (some 21), some (some 22), some none, none, none, none] : List (Option (Option Nat))).set 3 (some (some 23))))
def ShC47 : SH := ShC46.set 0 (.inr (10, ([some (some 1), none, some (some 2), some (some 3), some (some 6), some (some 10), some (some 15), some none, some none, some none, some none, some none, some none] : List (Option (Option Nat))).set 7 (some (some 19))))
def ShC48 : SH := ShC47 ++ [.inr (5, dflC 5)]
def ShC49 : SH := ShC48.set 24 (.inr (5, ([some none, some none, some none, some none, some none, some none, none, none, none, none, none] : List (Option (Option Nat))).set 0 (some (some 19))))
def ShC50 : SH := ShC49.set 24 (.inr (5, ([some (some 19), some none, some none, some none, some none, some none, none, none, none, none, none] : List (Option (Option Nat))).set 1 (some (some 6))))
def ShC51 : SH := ShC50.set 24 (.inr (5, ([some (some 19), some (some 6), some none, some none, some none, some none, none, none, none, none, none] : List (Option (Option Nat))).set 2 (some (some 10))))
def ShC52 : SH := ShC51.set 24 (.inr (5, ([some (some 19), some (some 6), some (some 10), some none, some none, some none, none, none, none, none, none] : List (Option (Option Nat))).set 3 (some (some 15))))
def ShC53 : SH := ShC52 ++ [.inl (0, 10)]
def ShC54 : SH := ShC53.set 24 (.inr (5, ([some (some 19), some (some 6), some (some 10), some (some 15), some none, some none, none, none, none, none, none] : List (Option (Option Nat))).set 4 (some (some 25))))
def ShC55 : SH := ShC54 ++ [.inl (0, 10)]
def ShC56 : SH := ShC55.set 24 (.inr (5, ([some (some 19), some (some 6), some (some 10), some (some 15), some (some 25), some none, none, none, none, none, none] : List (Option (Option Nat))).set 5 (some (some 26))))
def ShC57 : SH := ShC56.set 0 (.inr (10, ([some (some 1), none, some (some 2), some (some 3), some (some 6), some (some 10), some (some 15), some (some 19), some none, some none, some none, some none, some none] : List (Option (Option Nat))).set 8 (some (some 24))))
def ShC58 : SH := ShC57 ++ [.inr (4, dflC 4)]
def ShC59 : SH := ShC58 ++ [.inr (8, dflC 8)]
def ShC60 : SH := ShC59.set 28 (.inr (8, ([some none, some none, some none, none, none, none] : List (Option (Option Nat))).set 0 (some (some 3))))
def ShC61 : SH := ShC60.set 28 (.inr (8, ([some (some 3), some none, some none, none, none, none] : List (Option (Option Nat))).set 1 (some (some 6))))
def ShC62 : SH := ShC61 ++ [.inl (0, 1209)]
def ShC63 : SH := ShC62.set 28 (.inr (8, ([some (some 3), some (some 6), some none, none, none, none] : List (Option (Option Nat))).set 2 (some (some 29))))
def ShC64 : SH := ShC63.set 27 (.inr (4, ([some none, some none, some none, some none, some none, none] : List (Option (Option Nat))).set 0 (some (some 24))))
def ShC65 : SH := ShC64.set 27 (.inr (4, ([some (some 24), some none, some none, some none, some none, none] : List (Option (Option Nat))).set 1 (some (some 28))))
def ShC66 : SH := ShC65 ++ [.inl (0, 60)]
def ShC67 : SH := ShC66.set 27 (.inr (4, ([some (some 24), some (some 28), some none, some none, some none, none] : List (Option (Option Nat))).set 2 (some (some 30))))
def ShC68 : SH := ShC67 ++ [.inl (0, 60)]
def ShC69 : SH := ShC68.set 27 (.inr (4, ([some (some 24), some (some 28), some (some 30), some none, some none, none] : List (Option (Option Nat))).set 3 (some (some 31))))
def ShC70 : SH := ShC69 ++ [.inl (1, 60)]
def ShC71 : SH := ShC70.set 27 (.inr (4, ([some (some 24), some (some 28), some (some 30), some (some 31), some none, none] : List (Option (Option Nat))).set 4 (some (some 32))))
def ShC72 : SH := ShC71.set 0 (.inr (10, ([some (some 1), none, some (some 2), some (some 3), some (some 6), some (some 10), some (some 15), some (some 19), some (some 24), some none, some none, some none, some none] : List (Option (Option Nat))).set 9 (some (some 27))))
def ShC73 : SH := ShC72 ++ [.inr (3, dflC 3)]
def ShC74 : SH := ShC73.set 33 (.inr (3, ([some none, some none, some none, none, none, none] : List (Option (Option Nat))).set 0 (some (some 24))))
def ShC75 : SH := ShC74 ++ [.inl (0, 4)]
def ShC76 : SH := ShC75.set 33 (.inr (3, ([some (some 24), some none, some none, none, none, none] : List (Option (Option Nat))).set 1 (some (some 34))))
def ShC77 : SH := ShC76 ++ [.inl (0, 55)]
def ShC78 : SH := ShC77.set 33 (.inr (3, ([some (some 24), some (some 34), some none, none, none, none] : List (Option (Option Nat))).set 2 (some (some 35))))
def ShC79 : SH := ShC78.set 0 (.inr (10, ([some (some 1), none, some (some 2), some (some 3), some (some 6), some (some 10), some (some 15), some (some 19), some (some 24), some (some 27), some none, some none, some none] : List (Option (Option Nat))).set 10 (some (some 33))))
def ShC80 : SH := ShC79 ++ [.inr (1, dflC 1)]
def ShC81 : SH := ShC80 ++ [.inl (0, 480)]
def ShC82 : SH := ShC81.set 36 (.inr (1, ([some none, some none, some none, some none, none] : List (Option (Option Nat))).set 0 (some (some 37))))
def ShC83 : SH := ShC82 ++ [.inl (0, 40)]
def ShC84 : SH := ShC83.set 36 (.inr (1, ([some (some 37), some none, some none, some none, none] : List (Option (Option Nat))).set 1 (some (some 38))))
def ShC85 : SH := ShC84 ++ [.inl (0, 40)]
def ShC86 : SH := ShC85.set 36 (.inr (1, ([some (some 37), some (some 38), some none, some none, none] : List (Option (Option Nat))).set 2 (some (some 39))))
def ShC87 : SH := ShC86 ++ [.inl (0, 40)]
def ShC88 : SH := ShC87.set 36 (.inr (1, ([some (some 37), some (some 38), some (some 39), some none, none] : List (Option (Option Nat))).set 3 (some (some 40))))
def ShC89 : SH := ShC88.set 0 (.inr (10, ([some (some 1), none, some (some 2), some (some 3), some (some 6), some (some 10), some (some 15), some (some 19), some (some 24), some (some 27), some (some 33), some none, some none] : List (Option (Option Nat))).set 11 (some (some 36))))
def ShC90 : SH := ShC89 ++ [.inr (8, dflC 8)]
def ShC91 : SH := ShC90.set 41 (.inr (8, ([some none, some none, some none, none, none, none] : List (Option (Option Nat))).set 0 (some (some 3))))
def ShC92 : SH := ShC91.set 41 (.inr (8, ([some (some 3), some none, some none, none, none, none] : List (Option (Option Nat))).set 1 (some (some 6))))
def ShC93 : SH := ShC92 ++ [.inl (0, 1209)]
def ShC94 : SH := ShC93.set 41 (.inr (8, ([some (some 3), some (some 6), some none, none, none, none] : List (Option (Option Nat))).set 2 (some (some 42))))
def ShC95 : SH := ShC94.set 0 (.inr (10, ([some (some 1), none, some (some 2), some (some 3), some (some 6), some (some 10), some (some 15), some (some 19), some (some 24), some (some 27), some (some 33), some (some 36), some none] : List (Option (Option Nat))).set 12 (some (some 41))))
def ShC96 : SH := ShC95 ++ [.inr (11, dflC 11)]
def ShC97 : SH := ShC96 ++ [.inl (0, 60)]
def ShC98 : SH := ShC97.set 43 (.inr (11, ([none, none, some none, some none, some none, some none, none, some none, some none, some none, none, some none, some none, some none, some none, some none, none, some none, none, some none, some none, none, none, some none, some none, some none, none, some none, some none, none, none, some none, some none, none, none, none, some none, some none, some none, none, some none, some none, some none, some none, some none, none, none, some none, none, none, some none, some none, none, none] : List (Option (Option Nat))).set 2 (some (some 44))))
def ShC99 : SH := ShC98 ++ [.inl (1, 60)]
def ShC100 : SH := ShC99.set 43 (.inr (11, ([none, none, some (some 44), some none, some none, some none, none, some none, some none, some none, none, some none, some none, some none, some none, some none, none, some none, none, some none, some none, none, none, some none, some none, some none, none, some none, some none, none, none, some none, some none, none, none, none, some none, some none, some none, none, some none, some none, some none, some none, some none, none, none, some none, none, none, some none, some none, none, none] : List (Option (Option Nat))).set 3 (some (some 45))))
def ShC101 : SH := ShC100 ++ [.inl (1, 60)]
def ShC102 : SH := ShC101.set 43 (.inr (11, ([none, none, some (some 44), some (some 45), some none, some none, none, some none, some none, some none, none, some none, some none, some none, some none, some none, none, some none, none, some none, some none, none, none, some none, some none, some none, none, some none, some none, none, none, some none, some none, none, none, none, some none, some none, some none, none, some none, some none, some none, some none, some none, none, none, some none, none, none, some none, some none, none, none] : List (Option (Option Nat))).set 4 (some (some 46))))
def ShC103 : SH := ShC102 ++ [.inl (0, 60)]
def ShC104 : SH := ShC103.set 43 (.inr (11, ([none, none, some (some 44), some (some 45), some (some 46), some none, none, some none, some none, some none, none, some none, some none, some none, some none, some none, none, some none, none, some none, some none, none, none, some none, some none, some none, none, some none, some none, none, none, some none, some none, none, none, none, some none, some none, some none, none, some none, some none, some none, some none, some none, none, none, some none, none, none, some none, some none, none, none] : List (Option (Option Nat))).set 5 (some (some 47))))
def ShC105 : SH := ShC104 ++ [.inl (0, 1080)]
def ShC106 : SH := ShC105.set 43 (.inr (11, ([none, none, some (some 44), some (some 45), some (some 46), some (some 47), none, some none, some none, some none, none, some none, some none, some none, some none, some none, none, some none, none, some none, some none, none, none, some none, some none, some none, none, some none, some none, none, none, some none, some none, none, none, none, some none, some none, some none, none, some none, some none, some none, some none, some none, none, none, some none, none, none, some none, some none, none, none] : List (Option (Option Nat))).set 7 (some (some 48))))
def ShC107 : SH := ShC106 ++ [.inl (0, 90)]
def ShC108 : SH := ShC107.set 43 (.inr (11, ([none, none, some (some 44), some (some 45), some (some 46), some (some 47), none, some (some 48), some none, some none, none, some none, some none, some none, some none, some none, none, some none, none, some none, some none, none, none, some none, some none, some none, none, some none, some none, none, none, some none, some none, none, none, none, some none, some none, some none, none, some none, some none, some none, some none, some none, none, none, some none, none, none, some none, some none, none, none] : List (Option (Option Nat))).set 8 (some (some 49))))
def ShC109 : SH := ShC108 ++ [.inl (0, 90)]
def ShC110 : SH := ShC109.set 43 (.inr (11, ([none, none, some (some 44), some (some 45), some (some 46), some (some 47), none, some (some 48), some (some 49), some none, none, some none, some none, some none, some none, some none, none, some none, none, some none, some none, none, none, some none, some none, some none, none, some none, some none, none, none, some none, some none, none, none, none, some none, some none, some none, none, some none, some none, some none, some none, some none, none, none, some none, none, none, some none, some none, none, none] : List (Option (Option Nat))).set 9 (some (some 50))))
def ShC111 : SH := ShC110 ++ [.inl (0, 40)]
def ShC112 : SH := ShC111.set 43 (.inr (11, ([none, none, some (some 44), some (some 45), some (some 46), some (some 47), none, some (some 48), some (some 49), some (some 50), none, some none, some none, some none, some none, some none, none, some none, none, some none, some none, none, none, some none, some none, some none, none, some none, some none, none, none, some none, some none, none, none, none, some none, some none, some none, none, some none, some none, some none, some none, some none, none, none, some none, none, none, some none, some none, none, none] : List (Option (Option Nat))).set 11 (some (some 51))))
def ShC113 : SH := ShC112 ++ [.inl (0, 160)]
def ShC114 : SH := ShC113.set 43 (.inr (11, ([none, none, some (some 44), some (some 45), some (some 46), some (some 47), none, some (some 48), some (some 49), some (some 50), none, some (some 51), some none, some none, some none, some none, none, some none, none, some none, some none, none, none, some none, some none, some none, none, some none, some none, none, none, some none, some none, none, none, none, some none, some none, some none, none, some none, some none, some none, some none, some none, none, none, some none, none, none, some none, some none, none, none] : List (Option (Option Nat))).set 12 (some (some 52))))
def ShC115 : SH := ShC114 ++ [.inl (0, 40)]
def ShC116 : SH := ShC115.set 43 (.inr (11, ([none, none, some (some 44), some (some 45), some (some 46), some (some 47), none, some (some 48), some (some 49), some (some 50), none, some (some 51), some (some 52), some none, some none, some none, none, some none, none, some none, some none, none, none, some none, some none, some none, none, some none, some none, none, none, some none, some none, none, none, none, some none, some none, some none, none, some none, some none, some none, some none, some none, none, none, some none, none, none, some none, some none, none, none] : List (Option (Option Nat))).set 13 (some (some 53))))
def ShC117 : SH := ShC116 ++ [.inl (0, 9)]
def ShC118 : SH := ShC117.set 43 (.inr (11, ([none, none, some (some 44), some (some 45), some (some 46), some (some 47), none, some (some 48), some (some 49), some (some 50), none, some (some 51), some (some 52), some (some 53), some none, some none, none, some none, none, some none, some none, none, none, some none, some none, some none, none, some none, some none, none, none, some none, some none, none, none, none, some none, some none, some none, none, some none, some none, some none, some none, some none, none, none, some none, none, none, some none, some none, none, none] : List (Option (Option Nat))).set 14 (some (some 54))))
def ShC119 : SH := ShC118 ++ [.inl (1, 676)]
def ShC120 : SH := ShC119.set 43 (.inr (11, ([none, none, some (some 44), some (some 45), some (some 46), some (some 47), none, some (some 48), some (some 49), some (some 50), none, some (some 51), some (some 52), some (some 53), some (some 54), some none, none, some none, none, some none, some none, none, none, some none, some none, some none, none, some none, some none, none, none, some none, some none, none, none, none, some none, some none, some none, none, some none, some none, some none, some none, some none, none, none, some none, none, none, some none, some none, none, none] : List (Option (Option Nat))).set 15 (some (some 55))))
def ShC121 : SH := ShC120 ++ [.inl (0, 80)]
def ShC122 : SH := ShC121.set 43 (.inr (11, ([none, none, some (some 44), some (some 45), some (some 46), some (some 47), none, some (some 48), some (some 49), some (some 50), none, some (some 51), some (some 52), some (some 53), some (some 54), some (some 55), none, some none, none, some none, some none, none, none, some none, some none, some none, none, some none, some none, none, none, some none, some none, none, none, none, some none, some none, some none, none, some none, some none, some none, some none, some none, none, none, some none, none, none, some none, some none, none, none] : List (Option (Option Nat))).set 17 (some (some 56))))
def ShC123 : SH := ShC122 ++ [.inl (0, 300)]
def ShC124 : SH := ShC123.set 43 (.inr (11, ([none, none, some (some 44), some (some 45), some (some 46), some (some 47), none, some (some 48), some (some 49), some (some 50), none, some (some 51), some (some 52), some (some 53), some (some 54), some (some 55), none, some (some 56), none, some none, some none, none, none, some none, some none, some none, none, some none, some none, none, none, some none, some none, none, none, none, some none, some none, some none, none, some none, some none, some none, some none, some none, none, none, some none, none, none, some none, some none, none, none] : List (Option (Option Nat))).set 19 (some (some 57))))
def ShC125 : SH := ShC124 ++ [.inl (0, 300)]
def ShC126 : SH := ShC125.set 43 (.inr (11, ([none, none, some (some 44), some (some 45), some (some 46), some (some 47), none, some (some 48), some (some 49), some (some 50), none, some (some 51), some (some 52), some (some 53), some (some 54), some (some 55), none, some (some 56), none, some (some 57), some none, none, none, some none, some none, some none, none, some none, some none, none, none, some none, some none, none, none, none, some none, some none, some none, none, some none, some none, some none, some none, some none, none, none, some none, none, none, some none, some none, none, none] : List (Option (Option Nat))).set 20 (some (some 58))))
def ShC127 : SH := ShC126 ++ [.inl (0, 10)]
def ShC128 : SH := ShC127.set 43 (.inr (11, ([none, none, some (some 44), some (some 45), some (some 46), some (some 47), none, some (some 48), some (some 49), some (some 50), none, some (some 51), some (some 52), some (some 53), some (some 54), some (some 55), none, some (some 56), none, some (some 57), some (some 58), none, none, some none, some none, some none, none, some none, some none, none, none, some none, some none, none, none, none, some none, some none, some none, none, some none, some none, some none, some none, some none, none, none, some none, none, none, some none, some none, none, none] : List (Option (Option Nat))).set 23 (some (some 59))))
def ShC129 : SH := ShC128 ++ [.inl (0, 10)]
def ShC130 : SH := ShC129.set 43 (.inr (11, ([none, none, some (some 44), some (some 45), some (some 46), some (some 47), none, some (some 48), some (some 49), some (some 50), none, some (some 51), some (some 52), some (some 53), some (some 54), some (some 55), none, some (some 56), none, some (some 57), some (some 58), none, none, some (some 59), some none, some none, none, some none, some none, none, none, some none, some none, none, none, none, some none, some none, some none, none, some none, some none, some none, some none, some none, none, none, some none, none, none, some none, some none, none, none] : List (Option (Option Nat))).set 24 (some (some 60))))
def ShC131 : SH := ShC130 ++ [.inl (0, 10)]
def ShC132 : SH := ShC131.set 43 (.inr (11, ([none, none, some (some 44), some (some 45), some (some 46), some (some 47), none, some (some 48), some (some 49), some (some 50), none, some (some 51), some (some 52), some (some 53), some (some 54), some (some 55), none, some (some 56), none, some (some 57), some (some 58), none, none, some (some 59), some (some 60), some none, none, some none, some none, none, none, some none, some none, none, none, none, some none, some none, some none, none, some none, some none, some none, some none, some none, none, none, some none, none, none, some none, some none, none, none] : List (Option (Option Nat))).set 25 (some (some 61))))
def ShC133 : SH := ShC132 ++ [.inl (0, 10)]
def ShC134 : SH := ShC133.set 43 (.inr (11, ([none, none, some (some 44), some (some 45), some (some 46), some (some 47), none, some (some 48), some (some 49), some (some 50), none, some (some 51), some (some 52), some (some 53), some (some 54), some (some 55), none, some (some 56), none, some (some 57), some (some 58), none, none, some (some 59), some (some 60), some (some 61), none, some none, some none, none, none, some none, some none, none, none, none, some none, some none, some none, none, some none, some none, some none, some none, some none, none, none, some none, none, none, some none, some none, none, none] : List (Option (Option Nat))).set 27 (some (some 62))))
def ShC135 : SH := ShC134 ++ [.inl (0, 10)]
def ShC136 : SH := ShC135.set 43 (.inr (11, ([none, none, some (some 44), some (some 45), some (some 46), some (some 47), none, some (some 48), some (some 49), some (some 50), none, some (some 51), some (some 52), some (some 53), some (some 54), some (some 55), none, some (some 56), none, some (some 57), some (some 58), none, none, some (some 59), some (some 60), some (some 61), none, some (some 62), some none, none, none, some none, some none, none, none, none, some none, some none, some none, none, some none, some none, some none, some none, some none, none, none, some none, none, none, some none, some none, none, none] : List (Option (Option Nat))).set 28 (some (some 63))))
def ShC137 : SH := ShC136 ++ [.inl (0, 1053)]
def ShC138 : SH := ShC137.set 43 (.inr (11, ([none, none, some (some 44), some (some 45), some (some 46), some (some 47), none, some (some 48), some (some 49), some (some 50), none, some (some 51), some (some 52), some (some 53), some (some 54), some (some 55), none, some (some 56), none, some (some 57), some (some 58), none, none, some (some 59), some (some 60), some (some 61), none, some (some 62), some (some 63), none, none, some none, some none, none, none, none, some none, some none, some none, none, some none, some none, some none, some none, some none, none, none, some none, none, none, some none, some none, none, none] : List (Option (Option Nat))).set 31 (some (some 64))))
def ShC139 : SH := ShC138 ++ [.inl (0, 1053)]
def ShC140 : SH := ShC139.set 43 (.inr (11, ([none, none, some (some 44), some (some 45), some (some 46), some (some 47), none, some (some 48), some (some 49), some (some 50), none, some (some 51), some (some 52), some (some 53), some (some 54), some (some 55), none, some (some 56), none, some (some 57), some (some 58), none, none, some (some 59), some (some 60), some (some 61), none, some (some 62), some (some 63), none, none, some (some 64), some none, none, none, none, some none, some none, some none, none, some none, some none, some none, some none, some none, none, none, some none, none, none, some none, some none, none, none] : List (Option (Option Nat))).set 32 (some (some 65))))
def ShC141 : SH := ShC140 ++ [.inl (0, 60)]
def ShC142 : SH := ShC141.set 43 (.inr (11, ([none, none, some (some 44), some (some 45), some (some 46), some (some 47), none, some (some 48), some (some 49), some (some 50), none, some (some 51), some (some 52), some (some 53), some (some 54), some (some 55), none, some (some 56), none, some (some 57), some (some 58), none, none, some (some 59), some (some 60), some (some 61), none, some (some 62), some (some 63), none, none, some (some 64), some (some 65), none, none, none, some none, some none, some none, none, some none, some none, some none, some none, some none, none, none, some none, none, none, some none, some none, none, none] : List (Option (Option Nat))).set 36 (some (some 66))))
def ShC143 : SH := ShC142 ++ [.inl (0, 60)]
def ShC144 : SH := ShC143.set 43 (.inr (11, ([none, none, some (some 44), some (some 45), some (some 46), some (some 47), none, some (some 48), some (some 49), some (some 50), none, some (some 51), some (some 52), some (some 53), some (some 54), some (some 55), none, some (some 56), none, some (some 57), some (some 58), none, none, some (some 59), some (some 60), some (some 61), none, some (some 62), some (some 63), none, none, some (some 64), some (some 65), none, none, none, some (some 66), some none, some none, none, some none, some none, some none, some none, some none, none, none, some none, none, none, some none, some none, none, none] : List (Option (Option Nat))).set 37 (some (some 67))))
def ShC145 : SH := ShC144 ++ [.inl (1, 60)]
def ShC146 : SH := ShC145.set 43 (.inr (11, ([none, none, some (some 44), some (some 45), some (some 46), some (some 47), none, some (some 48), some (some 49), some (some 50), none, some (some 51), some (some 52), some (some 53), some (some 54), some (some 55), none, some (some 56), none, some (some 57), some (some 58), none, none, some (some 59), some (some 60), some (some 61), none, some (some 62), some (some 63), none, none, some (some 64), some (some 65), none, none, none, some (some 66), some (some 67), some none, none, some none, some none, some none, some none, some none, none, none, some none, none, none, some none, some none, none, none] : List (Option (Option Nat))).set 38 (some (some 68))))
def ShC147 : SH := ShC146 ++ [.inl (0, 480)]
def ShC148 : SH := ShC147.set 43 (.inr (11, ([none, none, some (some 44), some (some 45), some (some 46), some (some 47), none, some (some 48), some (some 49), some (some 50), none, some (some 51), some (some 52), some (some 53), some (some 54), some (some 55), none, some (some 56), none, some (some 57), some (some 58), none, none, some (some 59), some (some 60), some (some 61), none, some (some 62), some (some 63), none, none, some (some 64), some (some 65), none, none, none, some (some 66), some (some 67), some (some 68), none, some none, some none, some none, some none, some none, none, none, some none, none, none, some none, some none, none, none] : List (Option (Option Nat))).set 40 (some (some 69))))
def ShC149 : SH := ShC148 ++ [.inl (0, 40)]
def ShC150 : SH := ShC149.set 43 (.inr (11, ([none, none, some (some 44), some (some 45), some (some 46), some (some 47), none, some (some 48), some (some 49), some (some 50), none, some (some 51), some (some 52), some (some 53), some (some 54), some (some 55), none, some (some 56), none, some (some 57), some (some 58), none, none, some (some 59), some (some 60), some (some 61), none, some (some 62), some (some 63), none, none, some (some 64), some (some 65), none, none, none, some (some 66), some (some 67), some (some 68), none, some (some 69), some none, some none, some none, some none, none, none, some none, none, none, some none, some none, none, none] : List (Option (Option Nat))).set 41 (some (some 70))))
def ShC151 : SH := ShC150 ++ [.inl (0, 40)]
def ShC152 : SH := ShC151.set 43 (.inr (11, ([none, none, some (some 44), some (some 45), some (some 46), some (some 47), none, some (some 48), some (some 49), some (some 50), none, some (some 51), some (some 52), some (some 53), some (some 54), some (some 55), none, some (some 56), none, some (some 57), some (some 58), none, none, some (some 59), some (some 60), some (some 61), none, some (some 62), some (some 63), none, none, some (some 64), some (some 65), none, none, none, some (some 66), some (some 67), some (some 68), none, some (some 69), some (some 70), some none, some none, some none, none, none, some none, none, none, some none, some none, none, none] : List (Option (Option Nat))).set 42 (some (some 71))))
def ShC153 : SH := ShC152 ++ [.inl (0, 40)]
def ShC154 : SH := ShC153.set 43 (.inr (11, ([none, none, some (some 44), some (some 45), some (some 46), some (some 47), none, some (some 48), some (some 49), some (some 50), none, some (some 51), some (some 52), some (some 53), some (some 54), some (some 55), none, some (some 56), none, some (some 57), some (some 58), none, none, some (some 59), some (some 60), some (some 61), none, some (some 62), some (some 63), none, none, some (some 64), some (some 65), none, none, none, some (some 66), some (some 67), some (some 68), none, some (some 69), some (some 70), some (some 71), some none, some none, none, none, some none, none, none, some none, some none, none, none] : List (Option (Option Nat))).set 43 (some (some 72))))
def ShC155 : SH := ShC154 ++ [.inl (0, 60)]
def ShC156 : SH := ShC155.set 43 (.inr (11, ([none, none, some (some 44), some (some 45), some (some 46), some (some 47), none, some (some 48), some (some 49), some (some 50), none, some (some 51), some (some 52), some (some 53), some (some 54), some (some 55), none, some (some 56), none, some (some 57), some (some 58), none, none, some (some 59), some (some 60), some (some 61), none, some (some 62), some (some 63), none, none, some (some 64), some (some 65), none, none, none, some (some 66), some (some 67), some (some 68), none, some (some 69), some (some 70), some (some 71), some (some 72), some none, none, none, some none, none, none, some none, some none, none, none] : List (Option (Option Nat))).set 44 (some (some 73))))
def ShC157 : SH := ShC156 ++ [.inl (0, 4)]
def ShC158 : SH := ShC157.set 43 (.inr (11, ([none, none, some (some 44), some (some 45), some (some 46), some (some 47), none, some (some 48), some (some 49), some (some 50), none, some (some 51), some (some 52), some (some 53), some (some 54), some (some 55), none, some (some 56), none, some (some 57), some (some 58), none, none, some (some 59), some (some 60), some (some 61), none, some (some 62), some (some 63), none, none, some (some 64), some (some 65), none, none, none, some (some 66), some (some 67), some (some 68), none, some (some 69), some (some 70), some (some 71), some (some 72), some (some 73), none, none, some none, none, none, some none, some none, none, none] : List (Option (Option Nat))).set 47 (some (some 74))))
def ShC159 : SH := ShC158 ++ [.inl (0, 60)]
def ShC160 : SH := ShC159.set 43 (.inr (11, ([none, none, some (some 44), some (some 45), some (some 46), some (some 47), none, some (some 48), some (some 49), some (some 50), none, some (some 51), some (some 52), some (some 53), some (some 54), some (some 55), none, some (some 56), none, some (some 57), some (some 58), none, none, some (some 59), some (some 60), some (some 61), none, some (some 62), some (some 63), none, none, some (some 64), some (some 65), none, none, none, some (some 66), some (some 67), some (some 68), none, some (some 69), some (some 70), some (some 71), some (some 72), some (some 73), none, none, some (some 74), none, none, some none, some none, none, none] : List (Option (Option Nat))).set 50 (some (some 75))))
def ShC161 : SH := ShC160 ++ [.inl (0, 1053)]
def ShC162 : SH := ShC161.set 43 (.inr (11, ([none, none, some (some 44), some (some 45), some (some 46), some (some 47), none, some (some 48), some (some 49), some (some 50), none, some (some 51), some (some 52), some (some 53), some (some 54), some (some 55), none, some (some 56), none, some (some 57), some (some 58), none, none, some (some 59), some (some 60), some (some 61), none, some (some 62), some (some 63), none, none, some (some 64), some (some 65), none, none, none, some (some 66), some (some 67), some (some 68), none, some (some 69), some (some 70), some (some 71), some (some 72), some (some 73), none, none, some (some 74), none, none, some (some 75), some none, none, none] : List (Option (Option Nat))).set 51 (some (some 76))))
def ShC163 : SH := ShC162 ++ [.inl (2, 1)]
set_option maxRecDepth 100000 in
set_option maxHeartbeats 4000000 in
theorem cSett_init1 {h : HP} (hz : Zr 4 h) : Tr mSett_init 2 685 [.inr (.inr 3)] ShC6 h (fun v sh' h' => v = none ∧ sh' = ShC10 ∧ h' = (cpy h 1001 4 0 0 9)) := by
  refine Tr.of rfl rfl (mem_TBL (List.mem_of_getElem? (i := 80) (by decide +kernel)) rfl) (Nat.le_of_ble_eq_true rfl) ?_
  show Wt mSett_init 2 685 0 0 0 [some (.inr (.inr 3))] [] ShC6 h _
  refine wt_aload_n rfl dX7_init_0 ?_
  refine wt_objInit (mem_TBL (List.mem_of_getElem? (i := 81) (by decide +kernel)) rfl) in_obj.1 in_obj.2 (by decide) (by decide) (by decide) dX7_init_1 ?_
  refine wt_aload_n rfl dX7_init_4 ?_
  refine wt_getsN (List.mem_of_getElem? (i := 3) rfl) dX7_init_5 ?_
  refine wt_alenR ⟨by decide, by decide⟩ dX7_init_8 ?_
  refine wt_newIn (n := 4) (N := 9) (sh' := ShC7) rfl rfl (by decide) (fun j => hz 4 (Nat.le_refl _) (by decide) j) (by decide) (by decide) (by decide) dX7_init_9 rfl ?_
  refine wt_putR (k := 3) (ci := 7) (j := 0) (q' := 4) (rs := [some none, some none]) (sh' := ShC8) (fieldAt_ok fa_7_13).1 (fun _ => ⟨rfl, rfl⟩) (fieldAt_ok fa_7_13).2.2.2 rfl rfl (by decide +kernel) dX7_init_11 rfl ?_
  refine wt_getsN (List.mem_of_getElem? (i := 3) rfl) dX7_init_14 ?_
  refine wt_iconst ⟨by decide, by decide⟩ dX7_init_17 ?_
  refine wt_aload_n rfl dX7_init_18 ?_
  refine wt_getR (k := 3) (ci := 7) (j := 0) (q := 4) (rs := [some (some 4), some none]) (fieldAt_ok fa_7_13).1 (by decide +kernel) rfl dX7_init_19 ?_
  refine wt_iconst ⟨by decide, by decide⟩ dX7_init_22 ?_
  refine wt_getsN (List.mem_of_getElem? (i := 3) rfl) dX7_init_23 ?_
  refine wt_alenR ⟨by decide, by decide⟩ dX7_init_26 ?_
  refine wt_copyR (kd := 4) (nd := 9) (mem_TBL (List.mem_of_getElem? (i := 84) (by decide +kernel)) rfl) (by decide) (by decide) (by decide) (by decide +kernel) (by decide) dX7_init_27 ?_
  refine wt_aload_n rfl dX7_init_30 ?_
  refine wt_sipush (by decide) (by decide) dX7_init_31 ?_
  refine wt_newZn (n := 5) (N := 676) (sh' := ShC9) rfl rfl (by decide) (fun j => (Zr.cpy (Zr.le hz (show 4 ≤ 5 by decide)) (show 4 < 5 by decide)) 5 (Nat.le_refl _) (by decide) j) (by decide) (by decide) (by decide) dX7_init_34 rfl ?_
  refine wt_putR (k := 3) (ci := 7) (j := 1) (q' := 5) (rs := [some (some 4), some none]) (sh' := ShC10) (fieldAt_ok fa_7_24).1 (fun _ => ⟨rfl, rfl⟩) (fieldAt_ok fa_7_24).2.2.2 rfl rfl (by decide +kernel) dX7_init_36 rfl ?_
  exact wt_return rfl dX7_init_39 ⟨rfl, rfl, rfl⟩
theorem cSett_init1_z {h : HP} (hz : Zr 4 h) : Zr 6 (cpy h 1001 4 0 0 9) := (Zr.le (Zr.cpy (Zr.le hz (show 4 ≤ 5 by decide)) (show 4 < 5 by decide)) (show 5 ≤ 6 by decide))
set_option maxRecDepth 100000 in
set_option maxHeartbeats 4000000 in
theorem cNames_init1 {h : HP} (hz : Zr 7 h) : Tr mNames_init 3 1260 [.inr (.inr 6)] ShC12 h (fun v sh' h' => v = none ∧ sh' = ShC18 ∧ h' = (up h 6 3 0)) := by
  refine Tr.of rfl rfl (mem_TBL (List.mem_of_getElem? (i := 103) (by decide +kernel)) rfl) (Nat.le_of_ble_eq_true rfl) ?_
  show Wt mNames_init 3 1260 0 0 0 [some (.inr (.inr 6))] [] ShC12 h _
  refine wt_aload_n rfl dX2_init_0 ?_
  refine wt_objInit (mem_TBL (List.mem_of_getElem? (i := 104) (by decide +kernel)) rfl) in_obj.1 in_obj.2 (by decide) (by decide) (by decide) dX2_init_1 ?_
  refine wt_aload_n rfl dX2_init_4 ?_
  refine wt_sipush (by decide) (by decide) dX2_init_5 ?_
  refine wt_newIn (n := 7) (N := 1080) (sh' := ShC13) rfl rfl (by decide) (fun j => hz 7 (Nat.le_refl _) (by decide) j) (by decide) (by decide) (by decide) dX2_init_8 rfl ?_
  refine wt_putR (k := 6) (ci := 2) (j := 0) (q' := 7) (rs := [some none, some none, some none, none]) (sh' := ShC14) (fieldAt_ok fa_2_9).1 (fun _ => ⟨rfl, rfl⟩) (fieldAt_ok fa_2_9).2.2.2 rfl rfl (by decide +kernel) dX2_init_10 rfl ?_
  refine wt_aload_n rfl dX2_init_13 ?_
  refine wt_bipush (by decide) (by decide) dX2_init_14 ?_
  refine wt_newIn (n := 8) (N := 90) (sh' := ShC15) rfl rfl (by decide) (fun j => (Zr.le hz (show 7 ≤ 8 by decide)) 8 (Nat.le_refl _) (by decide) j) (by decide) (by decide) (by decide) dX2_init_16 rfl ?_
  refine wt_putR (k := 6) (ci := 2) (j := 1) (q' := 8) (rs := [some (some 7), some none, some none, none]) (sh' := ShC16) (fieldAt_ok fa_2_15).1 (fun _ => ⟨rfl, rfl⟩) (fieldAt_ok fa_2_15).2.2.2 rfl rfl (by decide +kernel) dX2_init_18 rfl ?_
  refine wt_aload_n rfl dX2_init_21 ?_
  refine wt_bipush (by decide) (by decide) dX2_init_22 ?_
  refine wt_newIn (n := 9) (N := 90) (sh' := ShC17) rfl rfl (by decide) (fun j => (Zr.le (Zr.le hz (show 7 ≤ 8 by decide)) (show 8 ≤ 9 by decide)) 9 (Nat.le_refl _) (by decide) j) (by decide) (by decide) (by decide) dX2_init_24 rfl ?_
  refine wt_putR (k := 6) (ci := 2) (j := 2) (q' := 9) (rs := [some (some 7), some (some 8), some none, none]) (sh' := ShC18) (fieldAt_ok fa_2_18).1 (fun _ => ⟨rfl, rfl⟩) (fieldAt_ok fa_2_18).2.2.2 rfl rfl (by decide +kernel) dX2_init_26 rfl ?_
  refine wt_aload_n rfl dX2_init_29 ?_
  refine wt_iconst ⟨by decide, by decide⟩ dX2_init_30 ?_
  refine wt_putI (k := 6) (ci := 2) (j := 3) (rs := [some (some 7), some (some 8), some (some 9), none]) (fieldAt_ok fa_2_21).1 ((fieldAt_ok fa_2_21).2.1 rfl) (fieldAt_ok fa_2_21).2.2.2 (by decide +kernel) rfl dX2_init_31 ?_
  exact wt_return rfl dX2_init_34 ⟨rfl, rfl, rfl⟩
theorem cNames_init1_z {h : HP} (hz : Zr 7 h) : Zr 10 (up h 6 3 0) := (Zr.up (Zr.le (Zr.le (Zr.le hz (show 7 ≤ 8 by decide)) (show 8 ≤ 9 by decide)) (show 9 ≤ 10 by decide)) (show 6 < 10 by decide))
set_option maxRecDepth 100000 in
set_option maxHeartbeats 4000000 in
theorem cWords_init1 {h : HP} (hz : Zr 11 h) : Tr mWords_init 4 240 [.inr (.inr 10)] ShC20 h (fun v sh' h' => v = none ∧ sh' = ShC28 ∧ h' = (up h 10 4 0)) := by
  refine Tr.of rfl rfl (mem_TBL (List.mem_of_getElem? (i := 133) (by decide +kernel)) rfl) (Nat.le_of_ble_eq_true rfl) ?_
  show Wt mWords_init 4 240 0 0 0 [some (.inr (.inr 10))] [] ShC20 h _
  refine wt_aload_n rfl dX9_init_0 ?_
  refine wt_objInit (mem_TBL (List.mem_of_getElem? (i := 134) (by decide +kernel)) rfl) in_obj.1 in_obj.2 (by decide) (by decide) (by decide) dX9_init_1 ?_
  refine wt_aload_n rfl dX9_init_4 ?_
  refine wt_bipush (by decide) (by decide) dX9_init_5 ?_
  refine wt_newIn (n := 11) (N := 60) (sh' := ShC21) rfl rfl (by decide) (fun j => hz 11 (Nat.le_refl _) (by decide) j) (by decide) (by decide) (by decide) dX9_init_7 rfl ?_
  refine wt_putR (k := 10) (ci := 9) (j := 0) (q' := 11) (rs := [some none, some none, some none, some none, none]) (sh' := ShC22) (fieldAt_ok fa_9_9).1 (fun _ => ⟨rfl, rfl⟩) (fieldAt_ok fa_9_9).2.2.2 rfl rfl (by decide +kernel) dX9_init_9 rfl ?_
  refine wt_aload_n rfl dX9_init_12 ?_
  refine wt_bipush (by decide) (by decide) dX9_init_13 ?_
  refine wt_newIn (n := 12) (N := 60) (sh' := ShC23) rfl rfl (by decide) (fun j => (Zr.le hz (show 11 ≤ 12 by decide)) 12 (Nat.le_refl _) (by decide) j) (by decide) (by decide) (by decide) dX9_init_15 rfl ?_
  refine wt_putR (k := 10) (ci := 9) (j := 1) (q' := 12) (rs := [some (some 11), some none, some none, some none, none]) (sh' := ShC24) (fieldAt_ok fa_9_15).1 (fun _ => ⟨rfl, rfl⟩) (fieldAt_ok fa_9_15).2.2.2 rfl rfl (by decide +kernel) dX9_init_17 rfl ?_
  refine wt_aload_n rfl dX9_init_20 ?_
  refine wt_bipush (by decide) (by decide) dX9_init_21 ?_
  refine wt_newZn (n := 13) (N := 60) (sh' := ShC25) rfl rfl (by decide) (fun j => (Zr.le (Zr.le hz (show 11 ≤ 12 by decide)) (show 12 ≤ 13 by decide)) 13 (Nat.le_refl _) (by decide) j) (by decide) (by decide) (by decide) dX9_init_23 rfl ?_
  refine wt_putR (k := 10) (ci := 9) (j := 2) (q' := 13) (rs := [some (some 11), some (some 12), some none, some none, none]) (sh' := ShC26) (fieldAt_ok fa_9_18).1 (fun _ => ⟨rfl, rfl⟩) (fieldAt_ok fa_9_18).2.2.2 rfl rfl (by decide +kernel) dX9_init_25 rfl ?_
  refine wt_aload_n rfl dX9_init_28 ?_
  refine wt_bipush (by decide) (by decide) dX9_init_29 ?_
  refine wt_newZn (n := 14) (N := 60) (sh' := ShC27) rfl rfl (by decide) (fun j => (Zr.le (Zr.le (Zr.le hz (show 11 ≤ 12 by decide)) (show 12 ≤ 13 by decide)) (show 13 ≤ 14 by decide)) 14 (Nat.le_refl _) (by decide) j) (by decide) (by decide) (by decide) dX9_init_31 rfl ?_
  refine wt_putR (k := 10) (ci := 9) (j := 3) (q' := 14) (rs := [some (some 11), some (some 12), some (some 13), some none, none]) (sh' := ShC28) (fieldAt_ok fa_9_22).1 (fun _ => ⟨rfl, rfl⟩) (fieldAt_ok fa_9_22).2.2.2 rfl rfl (by decide +kernel) dX9_init_33 rfl ?_
  refine wt_aload_n rfl dX9_init_36 ?_
  refine wt_iconst ⟨by decide, by decide⟩ dX9_init_37 ?_
  refine wt_putI (k := 10) (ci := 9) (j := 4) (rs := [some (some 11), some (some 12), some (some 13), some (some 14), none]) (fieldAt_ok fa_9_25).1 ((fieldAt_ok fa_9_25).2.1 rfl) (fieldAt_ok fa_9_25).2.2.2 (by decide +kernel) rfl dX9_init_38 ?_
  exact wt_return rfl dX9_init_41 ⟨rfl, rfl, rfl⟩
theorem cWords_init1_z {h : HP} (hz : Zr 11 h) : Zr 15 (up h 10 4 0) := (Zr.up (Zr.le (Zr.le (Zr.le (Zr.le hz (show 11 ≤ 12 by decide)) (show 12 ≤ 13 by decide)) (show 13 ≤ 14 by decide)) (show 14 ≤ 15 by decide)) (show 10 < 15 by decide))
set_option maxRecDepth 100000 in
set_option maxHeartbeats 4000000 in
theorem cRules_init1 {h : HP} (hz : Zr 16 h) : Tr mRules_init 3 240 [.inr (.inr 15)] ShC30 h (fun v sh' h' => v = none ∧ sh' = ShC36 ∧ h' = (up h 15 3 0)) := by
  refine Tr.of rfl rfl (mem_TBL (List.mem_of_getElem? (i := 162) (by decide +kernel)) rfl) (Nat.le_of_ble_eq_true rfl) ?_
  show Wt mRules_init 3 240 0 0 0 [some (.inr (.inr 15))] [] ShC30 h _
  refine wt_aload_n rfl dX6_init_0 ?_
  refine wt_objInit (mem_TBL (List.mem_of_getElem? (i := 163) (by decide +kernel)) rfl) in_obj.1 in_obj.2 (by decide) (by decide) (by decide) dX6_init_1 ?_
  refine wt_aload_n rfl dX6_init_4 ?_
  refine wt_bipush (by decide) (by decide) dX6_init_5 ?_
  refine wt_newIn (n := 16) (N := 40) (sh' := ShC31) rfl rfl (by decide) (fun j => hz 16 (Nat.le_refl _) (by decide) j) (by decide) (by decide) (by decide) dX6_init_7 rfl ?_
  refine wt_putR (k := 15) (ci := 6) (j := 0) (q' := 16) (rs := [some none, some none, some none, none]) (sh' := ShC32) (fieldAt_ok fa_6_9).1 (fun _ => ⟨rfl, rfl⟩) (fieldAt_ok fa_6_9).2.2.2 rfl rfl (by decide +kernel) dX6_init_9 rfl ?_
  refine wt_aload_n rfl dX6_init_12 ?_
  refine wt_bipush (by decide) (by decide) dX6_init_13 ?_
  refine wt_newIn (n := 17) (N := 40) (sh' := ShC33) rfl rfl (by decide) (fun j => (Zr.le hz (show 16 ≤ 17 by decide)) 17 (Nat.le_refl _) (by decide) j) (by decide) (by decide) (by decide) dX6_init_15 rfl ?_
  refine wt_putR (k := 15) (ci := 6) (j := 1) (q' := 17) (rs := [some (some 16), some none, some none, none]) (sh' := ShC34) (fieldAt_ok fa_6_15).1 (fun _ => ⟨rfl, rfl⟩) (fieldAt_ok fa_6_15).2.2.2 rfl rfl (by decide +kernel) dX6_init_17 rfl ?_
  refine wt_aload_n rfl dX6_init_20 ?_
  refine wt_sipush (by decide) (by decide) dX6_init_21 ?_
  refine wt_newIn (n := 18) (N := 160) (sh' := ShC35) rfl rfl (by decide) (fun j => (Zr.le (Zr.le hz (show 16 ≤ 17 by decide)) (show 17 ≤ 18 by decide)) 18 (Nat.le_refl _) (by decide) j) (by decide) (by decide) (by decide) dX6_init_24 rfl ?_
  refine wt_putR (k := 15) (ci := 6) (j := 2) (q' := 18) (rs := [some (some 16), some (some 17), some none, none]) (sh' := ShC36) (fieldAt_ok fa_6_18).1 (fun _ => ⟨rfl, rfl⟩) (fieldAt_ok fa_6_18).2.2.2 rfl rfl (by decide +kernel) dX6_init_26 rfl ?_
  refine wt_aload_n rfl dX6_init_29 ?_
  refine wt_iconst ⟨by decide, by decide⟩ dX6_init_30 ?_
  refine wt_putI (k := 15) (ci := 6) (j := 3) (rs := [some (some 16), some (some 17), some (some 18), none]) (fieldAt_ok fa_6_21).1 ((fieldAt_ok fa_6_21).2.1 rfl) (fieldAt_ok fa_6_21).2.2.2 (by decide +kernel) rfl dX6_init_31 ?_
  exact wt_return rfl dX6_init_34 ⟨rfl, rfl, rfl⟩
theorem cRules_init1_z {h : HP} (hz : Zr 16 h) : Zr 19 (up h 15 3 0) := (Zr.up (Zr.le (Zr.le (Zr.le hz (show 16 ≤ 17 by decide)) (show 17 ≤ 18 by decide)) (show 18 ≤ 19 by decide)) (show 15 < 19 by decide))
set_option maxRecDepth 100000 in
set_option maxHeartbeats 4000000 in
theorem cLine_init1 {h : HP} (hz : Zr 20 h) : Tr mLine_init 4 204 [.inr (.inr 19)] ShC38 h (fun v sh' h' => v = none ∧ sh' = ShC46 ∧ h' = (up (up (up h 19 4 0) 19 5 0) 19 6 (-1))) := by
  refine Tr.of rfl rfl (mem_TBL (List.mem_of_getElem? (i := 190) (by decide +kernel)) rfl) (Nat.le_of_ble_eq_true rfl) ?_
  show Wt mLine_init 4 204 0 0 0 [some (.inr (.inr 19))] [] ShC38 h _
  refine wt_aload_n rfl dX0_init_0 ?_
  refine wt_objInit (mem_TBL (List.mem_of_getElem? (i := 191) (by decide +kernel)) rfl) in_obj.1 in_obj.2 (by decide) (by decide) (by decide) dX0_init_1 ?_
  refine wt_aload_n rfl dX0_init_4 ?_
  refine wt_bipush (by decide) (by decide) dX0_init_5 ?_
  refine wt_newIn (n := 20) (N := 92) (sh' := ShC39) rfl rfl (by decide) (fun j => hz 20 (Nat.le_refl _) (by decide) j) (by decide) (by decide) (by decide) dX0_init_7 rfl ?_
  refine wt_putR (k := 19) (ci := 0) (j := 0) (q' := 20) (rs := [some none, some none, some none, some none, none, none, none]) (sh' := ShC40) (fieldAt_ok fa_0_9).1 (fun _ => ⟨rfl, rfl⟩) (fieldAt_ok fa_0_9).2.2.2 rfl rfl (by decide +kernel) dX0_init_9 rfl ?_
  refine wt_aload_n rfl dX0_init_12 ?_
  refine wt_bipush (by decide) (by decide) dX0_init_13 ?_
  refine wt_newIn (n := 21) (N := 92) (sh' := ShC41) rfl rfl (by decide) (fun j => (Zr.le hz (show 20 ≤ 21 by decide)) 21 (Nat.le_refl _) (by decide) j) (by decide) (by decide) (by decide) dX0_init_15 rfl ?_
  refine wt_putR (k := 19) (ci := 0) (j := 1) (q' := 21) (rs := [some (some 20), some none, some none, some none, none, none, none]) (sh' := ShC42) (fieldAt_ok fa_0_15).1 (fun _ => ⟨rfl, rfl⟩) (fieldAt_ok fa_0_15).2.2.2 rfl rfl (by decide +kernel) dX0_init_17 rfl ?_
  refine wt_aload_n rfl dX0_init_20 ?_
  refine wt_bipush (by decide) (by decide) dX0_init_21 ?_
  refine wt_newIn (n := 22) (N := 10) (sh' := ShC43) rfl rfl (by decide) (fun j => (Zr.le (Zr.le hz (show 20 ≤ 21 by decide)) (show 21 ≤ 22 by decide)) 22 (Nat.le_refl _) (by decide) j) (by decide) (by decide) (by decide) dX0_init_23 rfl ?_
  refine wt_putR (k := 19) (ci := 0) (j := 2) (q' := 22) (rs := [some (some 20), some (some 21), some none, some none, none, none, none]) (sh' := ShC44) (fieldAt_ok fa_0_18).1 (fun _ => ⟨rfl, rfl⟩) (fieldAt_ok fa_0_18).2.2.2 rfl rfl (by decide +kernel) dX0_init_25 rfl ?_
  refine wt_aload_n rfl dX0_init_28 ?_
  refine wt_bipush (by decide) (by decide) dX0_init_29 ?_
  refine wt_newIn (n := 23) (N := 10) (sh' := ShC45) rfl rfl (by decide) (fun j => (Zr.le (Zr.le (Zr.le hz (show 20 ≤ 21 by decide)) (show 21 ≤ 22 by decide)) (show 22 ≤ 23 by decide)) 23 (Nat.le_refl _) (by decide) j) (by decide) (by decide) (by decide) dX0_init_31 rfl ?_
  refine wt_putR (k := 19) (ci := 0) (j := 3) (q' := 23) (rs := [some (some 20), some (some 21), some (some 22), some none, none, none, none]) (sh' := ShC46) (fieldAt_ok fa_0_21).1 (fun _ => ⟨rfl, rfl⟩) (fieldAt_ok fa_0_21).2.2.2 rfl rfl (by decide +kernel) dX0_init_33 rfl ?_
  refine wt_aload_n rfl dX0_init_36 ?_
  refine wt_iconst ⟨by decide, by decide⟩ dX0_init_37 ?_
  refine wt_putI (k := 19) (ci := 0) (j := 4) (rs := [some (some 20), some (some 21), some (some 22), some (some 23), none, none, none]) (fieldAt_ok fa_0_24).1 ((fieldAt_ok fa_0_24).2.1 rfl) (fieldAt_ok fa_0_24).2.2.2 (by decide +kernel) rfl dX0_init_38 ?_
  refine wt_aload_n rfl dX0_init_41 ?_
  refine wt_iconst ⟨by decide, by decide⟩ dX0_init_42 ?_
  refine wt_putI (k := 19) (ci := 0) (j := 5) (rs := [some (some 20), some (some 21), some (some 22), some (some 23), none, none, none]) (fieldAt_ok fa_0_28).1 ((fieldAt_ok fa_0_28).2.1 rfl) (fieldAt_ok fa_0_28).2.2.2 (by decide +kernel) rfl dX0_init_43 ?_
  refine wt_aload_n rfl dX0_init_46 ?_
  refine wt_iconst ⟨by decide, by decide⟩ dX0_init_47 ?_
  refine wt_putI (k := 19) (ci := 0) (j := 6) (rs := [some (some 20), some (some 21), some (some 22), some (some 23), none, none, none]) (fieldAt_ok fa_0_31).1 ((fieldAt_ok fa_0_31).2.1 rfl) (fieldAt_ok fa_0_31).2.2.2 (by decide +kernel) rfl dX0_init_48 ?_
  exact wt_return rfl dX0_init_51 ⟨rfl, rfl, rfl⟩
theorem cLine_init1_z {h : HP} (hz : Zr 20 h) : Zr 24 (up (up (up h 19 4 0) 19 5 0) 19 6 (-1)) := (Zr.up (Zr.up (Zr.up (Zr.le (Zr.le (Zr.le (Zr.le hz (show 20 ≤ 21 by decide)) (show 21 ≤ 22 by decide)) (show 22 ≤ 23 by decide)) (show 23 ≤ 24 by decide)) (show 19 < 24 by decide)) (show 19 < 24 by decide)) (show 19 < 24 by decide))
set_option maxRecDepth 100000 in
set_option maxHeartbeats 4000000 in
theorem cRead_init1 {h : HP} (hz : Zr 25 h) : Tr mRead_init 2 20 [.inr (.inr 24), .inr (.inr 19), .inr (.inr 6), .inr (.inr 10), .inr (.inr 15)] ShC48 h (fun v sh' h' => v = none ∧ sh' = ShC56 ∧ h' = (up (up (up (up (up h 24 6 0) 24 7 1) 24 8 (-1)) 24 9 (-1)) 24 10 (-1))) := by
  refine Tr.of rfl rfl (mem_TBL (List.mem_of_getElem? (i := 233) (by decide +kernel)) rfl) (Nat.le_of_ble_eq_true rfl) ?_
  show Wt mRead_init 2 20 0 0 0 [some (.inr (.inr 24)), some (.inr (.inr 19)), some (.inr (.inr 6)), some (.inr (.inr 10)), some (.inr (.inr 15))] [] ShC48 h _
  refine wt_aload_n rfl dX5_init_0 ?_
  refine wt_objInit (mem_TBL (List.mem_of_getElem? (i := 234) (by decide +kernel)) rfl) in_obj.1 in_obj.2 (by decide) (by decide) (by decide) dX5_init_1 ?_
  refine wt_aload_n rfl dX5_init_4 ?_
  refine wt_aload_n rfl dX5_init_5 ?_
  refine wt_putR (k := 24) (ci := 5) (j := 0) (q' := 19) (rs := [some none, some none, some none, some none, some none, some none, none, none, none, none, none]) (sh' := ShC49) (fieldAt_ok fa_5_9).1 (fun _ => ⟨rfl, rfl⟩) (fieldAt_ok fa_5_9).2.2.2 rfl rfl (by decide +kernel) dX5_init_6 rfl ?_
  refine wt_aload_n rfl dX5_init_9 ?_
  refine wt_aload_n rfl dX5_init_10 ?_
  refine wt_putR (k := 24) (ci := 5) (j := 1) (q' := 6) (rs := [some (some 19), some none, some none, some none, some none, some none, none, none, none, none, none]) (sh' := ShC50) (fieldAt_ok fa_5_15).1 (fun _ => ⟨rfl, rfl⟩) (fieldAt_ok fa_5_15).2.2.2 rfl rfl (by decide +kernel) dX5_init_11 rfl ?_
  refine wt_aload_n rfl dX5_init_14 ?_
  refine wt_aload_n rfl dX5_init_15 ?_
  refine wt_putR (k := 24) (ci := 5) (j := 2) (q' := 10) (rs := [some (some 19), some (some 6), some none, some none, some none, some none, none, none, none, none, none]) (sh' := ShC51) (fieldAt_ok fa_5_19).1 (fun _ => ⟨rfl, rfl⟩) (fieldAt_ok fa_5_19).2.2.2 rfl rfl (by decide +kernel) dX5_init_16 rfl ?_
  refine wt_aload_n rfl dX5_init_19 ?_
  refine wt_aload rfl dX5_init_20 ?_
  refine wt_putR (k := 24) (ci := 5) (j := 3) (q' := 15) (rs := [some (some 19), some (some 6), some (some 10), some none, some none, some none, none, none, none, none, none]) (sh' := ShC52) (fieldAt_ok fa_5_23).1 (fun _ => ⟨rfl, rfl⟩) (fieldAt_ok fa_5_23).2.2.2 rfl rfl (by decide +kernel) dX5_init_22 rfl ?_
  refine wt_aload_n rfl dX5_init_25 ?_
  refine wt_bipush (by decide) (by decide) dX5_init_26 ?_
  refine wt_newIn (n := 25) (N := 10) (sh' := ShC53) rfl rfl (by decide) (fun j => hz 25 (Nat.le_refl _) (by decide) j) (by decide) (by decide) (by decide) dX5_init_28 rfl ?_
  refine wt_putR (k := 24) (ci := 5) (j := 4) (q' := 25) (rs := [some (some 19), some (some 6), some (some 10), some (some 15), some none, some none, none, none, none, none, none]) (sh' := ShC54) (fieldAt_ok fa_5_27).1 (fun _ => ⟨rfl, rfl⟩) (fieldAt_ok fa_5_27).2.2.2 rfl rfl (by decide +kernel) dX5_init_30 rfl ?_
  refine wt_aload_n rfl dX5_init_33 ?_
  refine wt_bipush (by decide) (by decide) dX5_init_34 ?_
  refine wt_newIn (n := 26) (N := 10) (sh' := ShC55) rfl rfl (by decide) (fun j => (Zr.le hz (show 25 ≤ 26 by decide)) 26 (Nat.le_refl _) (by decide) j) (by decide) (by decide) (by decide) dX5_init_36 rfl ?_
  refine wt_putR (k := 24) (ci := 5) (j := 5) (q' := 26) (rs := [some (some 19), some (some 6), some (some 10), some (some 15), some (some 25), some none, none, none, none, none, none]) (sh' := ShC56) (fieldAt_ok fa_5_31).1 (fun _ => ⟨rfl, rfl⟩) (fieldAt_ok fa_5_31).2.2.2 rfl rfl (by decide +kernel) dX5_init_38 rfl ?_
  refine wt_aload_n rfl dX5_init_41 ?_
  refine wt_iconst ⟨by decide, by decide⟩ dX5_init_42 ?_
  refine wt_putI (k := 24) (ci := 5) (j := 6) (rs := [some (some 19), some (some 6), some (some 10), some (some 15), some (some 25), some (some 26), none, none, none, none, none]) (fieldAt_ok fa_5_34).1 ((fieldAt_ok fa_5_34).2.1 rfl) (fieldAt_ok fa_5_34).2.2.2 (by decide +kernel) rfl dX5_init_43 ?_
  refine wt_aload_n rfl dX5_init_46 ?_
  refine wt_iconst ⟨by decide, by decide⟩ dX5_init_47 ?_
  refine wt_putI (k := 24) (ci := 5) (j := 7) (rs := [some (some 19), some (some 6), some (some 10), some (some 15), some (some 25), some (some 26), none, none, none, none, none]) (fieldAt_ok fa_5_38).1 ((fieldAt_ok fa_5_38).2.1 rfl) (fieldAt_ok fa_5_38).2.2.2 (by decide +kernel) rfl dX5_init_48 ?_
  refine wt_aload_n rfl dX5_init_51 ?_
  refine wt_iconst ⟨by decide, by decide⟩ dX5_init_52 ?_
  refine wt_putI (k := 24) (ci := 5) (j := 8) (rs := [some (some 19), some (some 6), some (some 10), some (some 15), some (some 25), some (some 26), none, none, none, none, none]) (fieldAt_ok fa_5_41).1 ((fieldAt_ok fa_5_41).2.1 rfl) (fieldAt_ok fa_5_41).2.2.2 (by decide +kernel) rfl dX5_init_53 ?_
  refine wt_aload_n rfl dX5_init_56 ?_
  refine wt_iconst ⟨by decide, by decide⟩ dX5_init_57 ?_
  refine wt_putI (k := 24) (ci := 5) (j := 9) (rs := [some (some 19), some (some 6), some (some 10), some (some 15), some (some 25), some (some 26), none, none, none, none, none]) (fieldAt_ok fa_5_44).1 ((fieldAt_ok fa_5_44).2.1 rfl) (fieldAt_ok fa_5_44).2.2.2 (by decide +kernel) rfl dX5_init_58 ?_
  refine wt_aload_n rfl dX5_init_61 ?_
  refine wt_iconst ⟨by decide, by decide⟩ dX5_init_62 ?_
  refine wt_putI (k := 24) (ci := 5) (j := 10) (rs := [some (some 19), some (some 6), some (some 10), some (some 15), some (some 25), some (some 26), none, none, none, none, none]) (fieldAt_ok fa_5_47).1 ((fieldAt_ok fa_5_47).2.1 rfl) (fieldAt_ok fa_5_47).2.2.2 (by decide +kernel) rfl dX5_init_63 ?_
  exact wt_return rfl dX5_init_66 ⟨rfl, rfl, rfl⟩
theorem cRead_init1_z {h : HP} (hz : Zr 25 h) : Zr 27 (up (up (up (up (up h 24 6 0) 24 7 1) 24 8 (-1)) 24 9 (-1)) 24 10 (-1)) := (Zr.up (Zr.up (Zr.up (Zr.up (Zr.up (Zr.le (Zr.le hz (show 25 ≤ 26 by decide)) (show 26 ≤ 27 by decide)) (show 24 < 27 by decide)) (show 24 < 27 by decide)) (show 24 < 27 by decide)) (show 24 < 27 by decide)) (show 24 < 27 by decide))
set_option maxRecDepth 100000 in
set_option maxHeartbeats 4000000 in
theorem cTable_init1 {h : HP} (hz : Zr 29 h) : Tr mTable_init 1 1209 [.inr (.inr 28), .inr (.inr 3), .inr (.inr 6)] ShC59 h (fun v sh' h' => v = none ∧ sh' = ShC63 ∧ h' = (up (up (up h 28 3 (-1)) 28 4 (-1)) 28 5 0)) := by
  refine Tr.of rfl rfl (mem_TBL (List.mem_of_getElem? (i := 289) (by decide +kernel)) rfl) (Nat.le_of_ble_eq_true rfl) ?_
  show Wt mTable_init 1 1209 0 0 0 [some (.inr (.inr 28)), some (.inr (.inr 3)), some (.inr (.inr 6))] [] ShC59 h _
  refine wt_aload_n rfl dX8_init_0 ?_
  refine wt_objInit (mem_TBL (List.mem_of_getElem? (i := 290) (by decide +kernel)) rfl) in_obj.1 in_obj.2 (by decide) (by decide) (by decide) dX8_init_1 ?_
  refine wt_aload_n rfl dX8_init_4 ?_
  refine wt_aload_n rfl dX8_init_5 ?_
  refine wt_putR (k := 28) (ci := 8) (j := 0) (q' := 3) (rs := [some none, some none, some none, none, none, none]) (sh' := ShC60) (fieldAt_ok fa_8_9).1 (fun _ => ⟨rfl, rfl⟩) (fieldAt_ok fa_8_9).2.2.2 rfl rfl (by decide +kernel) dX8_init_6 rfl ?_
  refine wt_aload_n rfl dX8_init_9 ?_
  refine wt_aload_n rfl dX8_init_10 ?_
  refine wt_putR (k := 28) (ci := 8) (j := 1) (q' := 6) (rs := [some (some 3), some none, some none, none, none, none]) (sh' := ShC61) (fieldAt_ok fa_8_15).1 (fun _ => ⟨rfl, rfl⟩) (fieldAt_ok fa_8_15).2.2.2 rfl rfl (by decide +kernel) dX8_init_11 rfl ?_
  refine wt_aload_n rfl dX8_init_14 ?_
  refine wt_sipush (by decide) (by decide) dX8_init_15 ?_
  refine wt_newIn (n := 29) (N := 1209) (sh' := ShC62) rfl rfl (by decide) (fun j => hz 29 (Nat.le_refl _) (by decide) j) (by decide) (by decide) (by decide) dX8_init_18 rfl ?_
  refine wt_putR (k := 28) (ci := 8) (j := 2) (q' := 29) (rs := [some (some 3), some (some 6), some none, none, none, none]) (sh' := ShC63) (fieldAt_ok fa_8_19).1 (fun _ => ⟨rfl, rfl⟩) (fieldAt_ok fa_8_19).2.2.2 rfl rfl (by decide +kernel) dX8_init_20 rfl ?_
  refine wt_aload_n rfl dX8_init_23 ?_
  refine wt_iconst ⟨by decide, by decide⟩ dX8_init_24 ?_
  refine wt_putI (k := 28) (ci := 8) (j := 3) (rs := [some (some 3), some (some 6), some (some 29), none, none, none]) (fieldAt_ok fa_8_23).1 ((fieldAt_ok fa_8_23).2.1 rfl) (fieldAt_ok fa_8_23).2.2.2 (by decide +kernel) rfl dX8_init_25 ?_
  refine wt_aload_n rfl dX8_init_28 ?_
  refine wt_iconst ⟨by decide, by decide⟩ dX8_init_29 ?_
  refine wt_putI (k := 28) (ci := 8) (j := 4) (rs := [some (some 3), some (some 6), some (some 29), none, none, none]) (fieldAt_ok fa_8_27).1 ((fieldAt_ok fa_8_27).2.1 rfl) (fieldAt_ok fa_8_27).2.2.2 (by decide +kernel) rfl dX8_init_30 ?_
  refine wt_aload_n rfl dX8_init_33 ?_
  refine wt_iconst ⟨by decide, by decide⟩ dX8_init_34 ?_
  refine wt_putI (k := 28) (ci := 8) (j := 5) (rs := [some (some 3), some (some 6), some (some 29), none, none, none]) (fieldAt_ok fa_8_30).1 ((fieldAt_ok fa_8_30).2.1 rfl) (fieldAt_ok fa_8_30).2.2.2 (by decide +kernel) rfl dX8_init_35 ?_
  exact wt_return rfl dX8_init_38 ⟨rfl, rfl, rfl⟩
theorem cTable_init1_z {h : HP} (hz : Zr 29 h) : Zr 30 (up (up (up h 28 3 (-1)) 28 4 (-1)) 28 5 0) := (Zr.up (Zr.up (Zr.up (Zr.le hz (show 29 ≤ 30 by decide)) (show 28 < 30 by decide)) (show 28 < 30 by decide)) (show 28 < 30 by decide))
set_option maxRecDepth 100000 in
set_option maxHeartbeats 4000000 in
theorem cProp_init1 {h : HP} (hz : Zr 30 h) : Tr mProp_init 3 180 [.inr (.inr 27), .inr (.inr 24), .inr (.inr 28)] ShC63 h (fun v sh' h' => v = none ∧ sh' = ShC71 ∧ h' = (up h 27 5 0)) := by
  refine Tr.of rfl rfl (mem_TBL (List.mem_of_getElem? (i := 316) (by decide +kernel)) rfl) (Nat.le_of_ble_eq_true rfl) ?_
  show Wt mProp_init 3 180 0 0 0 [some (.inr (.inr 27)), some (.inr (.inr 24)), some (.inr (.inr 28))] [] ShC63 h _
  refine wt_aload_n rfl dX4_init_0 ?_
  refine wt_objInit (mem_TBL (List.mem_of_getElem? (i := 317) (by decide +kernel)) rfl) in_obj.1 in_obj.2 (by decide) (by decide) (by decide) dX4_init_1 ?_
  refine wt_aload_n rfl dX4_init_4 ?_
  refine wt_aload_n rfl dX4_init_5 ?_
  refine wt_putR (k := 27) (ci := 4) (j := 0) (q' := 24) (rs := [some none, some none, some none, some none, some none, none]) (sh' := ShC64) (fieldAt_ok fa_4_9).1 (fun _ => ⟨rfl, rfl⟩) (fieldAt_ok fa_4_9).2.2.2 rfl rfl (by decide +kernel) dX4_init_6 rfl ?_
  refine wt_aload_n rfl dX4_init_9 ?_
  refine wt_aload_n rfl dX4_init_10 ?_
  refine wt_putR (k := 27) (ci := 4) (j := 1) (q' := 28) (rs := [some (some 24), some none, some none, some none, some none, none]) (sh' := ShC65) (fieldAt_ok fa_4_15).1 (fun _ => ⟨rfl, rfl⟩) (fieldAt_ok fa_4_15).2.2.2 rfl rfl (by decide +kernel) dX4_init_11 rfl ?_
  refine wt_aload_n rfl dX4_init_14 ?_
  refine wt_bipush (by decide) (by decide) dX4_init_15 ?_
  refine wt_newIn (n := 30) (N := 60) (sh' := ShC66) rfl rfl (by decide) (fun j => hz 30 (Nat.le_refl _) (by decide) j) (by decide) (by decide) (by decide) dX4_init_17 rfl ?_
  refine wt_putR (k := 27) (ci := 4) (j := 2) (q' := 30) (rs := [some (some 24), some (some 28), some none, some none, some none, none]) (sh' := ShC67) (fieldAt_ok fa_4_19).1 (fun _ => ⟨rfl, rfl⟩) (fieldAt_ok fa_4_19).2.2.2 rfl rfl (by decide +kernel) dX4_init_19 rfl ?_
  refine wt_aload_n rfl dX4_init_22 ?_
  refine wt_bipush (by decide) (by decide) dX4_init_23 ?_
  refine wt_newIn (n := 31) (N := 60) (sh' := ShC68) rfl rfl (by decide) (fun j => (Zr.le hz (show 30 ≤ 31 by decide)) 31 (Nat.le_refl _) (by decide) j) (by decide) (by decide) (by decide) dX4_init_25 rfl ?_
  refine wt_putR (k := 27) (ci := 4) (j := 3) (q' := 31) (rs := [some (some 24), some (some 28), some (some 30), some none, some none, none]) (sh' := ShC69) (fieldAt_ok fa_4_23).1 (fun _ => ⟨rfl, rfl⟩) (fieldAt_ok fa_4_23).2.2.2 rfl rfl (by decide +kernel) dX4_init_27 rfl ?_
  refine wt_aload_n rfl dX4_init_30 ?_
  refine wt_bipush (by decide) (by decide) dX4_init_31 ?_
  refine wt_newZn (n := 32) (N := 60) (sh' := ShC70) rfl rfl (by decide) (fun j => (Zr.le (Zr.le hz (show 30 ≤ 31 by decide)) (show 31 ≤ 32 by decide)) 32 (Nat.le_refl _) (by decide) j) (by decide) (by decide) (by decide) dX4_init_33 rfl ?_
  refine wt_putR (k := 27) (ci := 4) (j := 4) (q' := 32) (rs := [some (some 24), some (some 28), some (some 30), some (some 31), some none, none]) (sh' := ShC71) (fieldAt_ok fa_4_26).1 (fun _ => ⟨rfl, rfl⟩) (fieldAt_ok fa_4_26).2.2.2 rfl rfl (by decide +kernel) dX4_init_35 rfl ?_
  refine wt_aload_n rfl dX4_init_38 ?_
  refine wt_iconst ⟨by decide, by decide⟩ dX4_init_39 ?_
  refine wt_putI (k := 27) (ci := 4) (j := 5) (rs := [some (some 24), some (some 28), some (some 30), some (some 31), some (some 32), none]) (fieldAt_ok fa_4_30).1 ((fieldAt_ok fa_4_30).2.1 rfl) (fieldAt_ok fa_4_30).2.2.2 (by decide +kernel) rfl dX4_init_40 ?_
  exact wt_return rfl dX4_init_43 ⟨rfl, rfl, rfl⟩
theorem cProp_init1_z {h : HP} (hz : Zr 30 h) : Zr 33 (up h 27 5 0) := (Zr.up (Zr.le (Zr.le (Zr.le hz (show 30 ≤ 31 by decide)) (show 31 ≤ 32 by decide)) (show 32 ≤ 33 by decide)) (show 27 < 33 by decide))
set_option maxRecDepth 100000 in
set_option maxHeartbeats 4000000 in
theorem cNear_init1 {h : HP} (hz : Zr 34 h) : Tr mNear_init 2 59 [.inr (.inr 33), .inr (.inr 24)] ShC73 h (fun v sh' h' => v = none ∧ sh' = ShC78 ∧ h' = (up (up (up h 33 3 (-1)) 33 4 0) 33 5 0)) := by
  refine Tr.of rfl rfl (mem_TBL (List.mem_of_getElem? (i := 345) (by decide +kernel)) rfl) (Nat.le_of_ble_eq_true rfl) ?_
  show Wt mNear_init 2 59 0 0 0 [some (.inr (.inr 33)), some (.inr (.inr 24))] [] ShC73 h _
  refine wt_aload_n rfl dX3_init_0 ?_
  refine wt_objInit (mem_TBL (List.mem_of_getElem? (i := 346) (by decide +kernel)) rfl) in_obj.1 in_obj.2 (by decide) (by decide) (by decide) dX3_init_1 ?_
  refine wt_aload_n rfl dX3_init_4 ?_
  refine wt_aload_n rfl dX3_init_5 ?_
  refine wt_putR (k := 33) (ci := 3) (j := 0) (q' := 24) (rs := [some none, some none, some none, none, none, none]) (sh' := ShC74) (fieldAt_ok fa_3_9).1 (fun _ => ⟨rfl, rfl⟩) (fieldAt_ok fa_3_9).2.2.2 rfl rfl (by decide +kernel) dX3_init_6 rfl ?_
  refine wt_aload_n rfl dX3_init_9 ?_
  refine wt_iconst ⟨by decide, by decide⟩ dX3_init_10 ?_
  refine wt_newIn (n := 34) (N := 4) (sh' := ShC75) rfl rfl (by decide) (fun j => hz 34 (Nat.le_refl _) (by decide) j) (by decide) (by decide) (by decide) dX3_init_11 rfl ?_
  refine wt_putR (k := 33) (ci := 3) (j := 1) (q' := 34) (rs := [some (some 24), some none, some none, none, none, none]) (sh' := ShC76) (fieldAt_ok fa_3_15).1 (fun _ => ⟨rfl, rfl⟩) (fieldAt_ok fa_3_15).2.2.2 rfl rfl (by decide +kernel) dX3_init_13 rfl ?_
  refine wt_aload_n rfl dX3_init_16 ?_
  refine wt_bipush (by decide) (by decide) dX3_init_17 ?_
  refine wt_newIn (n := 35) (N := 55) (sh' := ShC77) rfl rfl (by decide) (fun j => (Zr.le hz (show 34 ≤ 35 by decide)) 35 (Nat.le_refl _) (by decide) j) (by decide) (by decide) (by decide) dX3_init_19 rfl ?_
  refine wt_putR (k := 33) (ci := 3) (j := 2) (q' := 35) (rs := [some (some 24), some (some 34), some none, none, none, none]) (sh' := ShC78) (fieldAt_ok fa_3_19).1 (fun _ => ⟨rfl, rfl⟩) (fieldAt_ok fa_3_19).2.2.2 rfl rfl (by decide +kernel) dX3_init_21 rfl ?_
  refine wt_aload_n rfl dX3_init_24 ?_
  refine wt_iconst ⟨by decide, by decide⟩ dX3_init_25 ?_
  refine wt_putI (k := 33) (ci := 3) (j := 3) (rs := [some (some 24), some (some 34), some (some 35), none, none, none]) (fieldAt_ok fa_3_22).1 ((fieldAt_ok fa_3_22).2.1 rfl) (fieldAt_ok fa_3_22).2.2.2 (by decide +kernel) rfl dX3_init_26 ?_
  refine wt_aload_n rfl dX3_init_29 ?_
  refine wt_iconst ⟨by decide, by decide⟩ dX3_init_30 ?_
  refine wt_putI (k := 33) (ci := 3) (j := 4) (rs := [some (some 24), some (some 34), some (some 35), none, none, none]) (fieldAt_ok fa_3_26).1 ((fieldAt_ok fa_3_26).2.1 rfl) (fieldAt_ok fa_3_26).2.2.2 (by decide +kernel) rfl dX3_init_31 ?_
  refine wt_aload_n rfl dX3_init_34 ?_
  refine wt_iconst ⟨by decide, by decide⟩ dX3_init_35 ?_
  refine wt_putI (k := 33) (ci := 3) (j := 5) (rs := [some (some 24), some (some 34), some (some 35), none, none, none]) (fieldAt_ok fa_3_29).1 ((fieldAt_ok fa_3_29).2.1 rfl) (fieldAt_ok fa_3_29).2.2.2 (by decide +kernel) rfl dX3_init_36 ?_
  exact wt_return rfl dX3_init_39 ⟨rfl, rfl, rfl⟩
theorem cNear_init1_z {h : HP} (hz : Zr 34 h) : Zr 36 (up (up (up h 33 3 (-1)) 33 4 0) 33 5 0) := (Zr.up (Zr.up (Zr.up (Zr.le (Zr.le hz (show 34 ≤ 35 by decide)) (show 35 ≤ 36 by decide)) (show 33 < 36 by decide)) (show 33 < 36 by decide)) (show 33 < 36 by decide))
set_option maxRecDepth 100000 in
set_option maxHeartbeats 4000000 in
theorem cLog_init1 {h : HP} (hz : Zr 37 h) : Tr mLog_init 4 600 [.inr (.inr 36)] ShC80 h (fun v sh' h' => v = none ∧ sh' = ShC88 ∧ h' = (up h 36 4 0)) := by
  refine Tr.of rfl rfl (mem_TBL (List.mem_of_getElem? (i := 374) (by decide +kernel)) rfl) (Nat.le_of_ble_eq_true rfl) ?_
  show Wt mLog_init 4 600 0 0 0 [some (.inr (.inr 36))] [] ShC80 h _
  refine wt_aload_n rfl dX1_init_0 ?_
  refine wt_objInit (mem_TBL (List.mem_of_getElem? (i := 375) (by decide +kernel)) rfl) in_obj.1 in_obj.2 (by decide) (by decide) (by decide) dX1_init_1 ?_
  refine wt_aload_n rfl dX1_init_4 ?_
  refine wt_sipush (by decide) (by decide) dX1_init_5 ?_
  refine wt_newIn (n := 37) (N := 480) (sh' := ShC81) rfl rfl (by decide) (fun j => hz 37 (Nat.le_refl _) (by decide) j) (by decide) (by decide) (by decide) dX1_init_8 rfl ?_
  refine wt_putR (k := 36) (ci := 1) (j := 0) (q' := 37) (rs := [some none, some none, some none, some none, none]) (sh' := ShC82) (fieldAt_ok fa_1_9).1 (fun _ => ⟨rfl, rfl⟩) (fieldAt_ok fa_1_9).2.2.2 rfl rfl (by decide +kernel) dX1_init_10 rfl ?_
  refine wt_aload_n rfl dX1_init_13 ?_
  refine wt_bipush (by decide) (by decide) dX1_init_14 ?_
  refine wt_newIn (n := 38) (N := 40) (sh' := ShC83) rfl rfl (by decide) (fun j => (Zr.le hz (show 37 ≤ 38 by decide)) 38 (Nat.le_refl _) (by decide) j) (by decide) (by decide) (by decide) dX1_init_16 rfl ?_
  refine wt_putR (k := 36) (ci := 1) (j := 1) (q' := 38) (rs := [some (some 37), some none, some none, some none, none]) (sh' := ShC84) (fieldAt_ok fa_1_15).1 (fun _ => ⟨rfl, rfl⟩) (fieldAt_ok fa_1_15).2.2.2 rfl rfl (by decide +kernel) dX1_init_18 rfl ?_
  refine wt_aload_n rfl dX1_init_21 ?_
  refine wt_bipush (by decide) (by decide) dX1_init_22 ?_
  refine wt_newIn (n := 39) (N := 40) (sh' := ShC85) rfl rfl (by decide) (fun j => (Zr.le (Zr.le hz (show 37 ≤ 38 by decide)) (show 38 ≤ 39 by decide)) 39 (Nat.le_refl _) (by decide) j) (by decide) (by decide) (by decide) dX1_init_24 rfl ?_
  refine wt_putR (k := 36) (ci := 1) (j := 2) (q' := 39) (rs := [some (some 37), some (some 38), some none, some none, none]) (sh' := ShC86) (fieldAt_ok fa_1_18).1 (fun _ => ⟨rfl, rfl⟩) (fieldAt_ok fa_1_18).2.2.2 rfl rfl (by decide +kernel) dX1_init_26 rfl ?_
  refine wt_aload_n rfl dX1_init_29 ?_
  refine wt_bipush (by decide) (by decide) dX1_init_30 ?_
  refine wt_newIn (n := 40) (N := 40) (sh' := ShC87) rfl rfl (by decide) (fun j => (Zr.le (Zr.le (Zr.le hz (show 37 ≤ 38 by decide)) (show 38 ≤ 39 by decide)) (show 39 ≤ 40 by decide)) 40 (Nat.le_refl _) (by decide) j) (by decide) (by decide) (by decide) dX1_init_32 rfl ?_
  refine wt_putR (k := 36) (ci := 1) (j := 3) (q' := 40) (rs := [some (some 37), some (some 38), some (some 39), some none, none]) (sh' := ShC88) (fieldAt_ok fa_1_21).1 (fun _ => ⟨rfl, rfl⟩) (fieldAt_ok fa_1_21).2.2.2 rfl rfl (by decide +kernel) dX1_init_34 rfl ?_
  refine wt_aload_n rfl dX1_init_37 ?_
  refine wt_iconst ⟨by decide, by decide⟩ dX1_init_38 ?_
  refine wt_putI (k := 36) (ci := 1) (j := 4) (rs := [some (some 37), some (some 38), some (some 39), some (some 40), none]) (fieldAt_ok fa_1_24).1 ((fieldAt_ok fa_1_24).2.1 rfl) (fieldAt_ok fa_1_24).2.2.2 (by decide +kernel) rfl dX1_init_39 ?_
  exact wt_return rfl dX1_init_42 ⟨rfl, rfl, rfl⟩
theorem cLog_init1_z {h : HP} (hz : Zr 37 h) : Zr 41 (up h 36 4 0) := (Zr.up (Zr.le (Zr.le (Zr.le (Zr.le hz (show 37 ≤ 38 by decide)) (show 38 ≤ 39 by decide)) (show 39 ≤ 40 by decide)) (show 40 ≤ 41 by decide)) (show 36 < 41 by decide))
set_option maxRecDepth 100000 in
set_option maxHeartbeats 4000000 in
theorem cTable_init2 {h : HP} (hz : Zr 42 h) : Tr mTable_init 1 1209 [.inr (.inr 41), .inr (.inr 3), .inr (.inr 6)] ShC90 h (fun v sh' h' => v = none ∧ sh' = ShC94 ∧ h' = (up (up (up h 41 3 (-1)) 41 4 (-1)) 41 5 0)) := by
  refine Tr.of rfl rfl (mem_TBL (List.mem_of_getElem? (i := 289) (by decide +kernel)) rfl) (Nat.le_of_ble_eq_true rfl) ?_
  show Wt mTable_init 1 1209 0 0 0 [some (.inr (.inr 41)), some (.inr (.inr 3)), some (.inr (.inr 6))] [] ShC90 h _
  refine wt_aload_n rfl dX8_init_0 ?_
  refine wt_objInit (mem_TBL (List.mem_of_getElem? (i := 290) (by decide +kernel)) rfl) in_obj.1 in_obj.2 (by decide) (by decide) (by decide) dX8_init_1 ?_
  refine wt_aload_n rfl dX8_init_4 ?_
  refine wt_aload_n rfl dX8_init_5 ?_
  refine wt_putR (k := 41) (ci := 8) (j := 0) (q' := 3) (rs := [some none, some none, some none, none, none, none]) (sh' := ShC91) (fieldAt_ok fa_8_9).1 (fun _ => ⟨rfl, rfl⟩) (fieldAt_ok fa_8_9).2.2.2 rfl rfl (by decide +kernel) dX8_init_6 rfl ?_
  refine wt_aload_n rfl dX8_init_9 ?_
  refine wt_aload_n rfl dX8_init_10 ?_
  refine wt_putR (k := 41) (ci := 8) (j := 1) (q' := 6) (rs := [some (some 3), some none, some none, none, none, none]) (sh' := ShC92) (fieldAt_ok fa_8_15).1 (fun _ => ⟨rfl, rfl⟩) (fieldAt_ok fa_8_15).2.2.2 rfl rfl (by decide +kernel) dX8_init_11 rfl ?_
  refine wt_aload_n rfl dX8_init_14 ?_
  refine wt_sipush (by decide) (by decide) dX8_init_15 ?_
  refine wt_newIn (n := 42) (N := 1209) (sh' := ShC93) rfl rfl (by decide) (fun j => hz 42 (Nat.le_refl _) (by decide) j) (by decide) (by decide) (by decide) dX8_init_18 rfl ?_
  refine wt_putR (k := 41) (ci := 8) (j := 2) (q' := 42) (rs := [some (some 3), some (some 6), some none, none, none, none]) (sh' := ShC94) (fieldAt_ok fa_8_19).1 (fun _ => ⟨rfl, rfl⟩) (fieldAt_ok fa_8_19).2.2.2 rfl rfl (by decide +kernel) dX8_init_20 rfl ?_
  refine wt_aload_n rfl dX8_init_23 ?_
  refine wt_iconst ⟨by decide, by decide⟩ dX8_init_24 ?_
  refine wt_putI (k := 41) (ci := 8) (j := 3) (rs := [some (some 3), some (some 6), some (some 42), none, none, none]) (fieldAt_ok fa_8_23).1 ((fieldAt_ok fa_8_23).2.1 rfl) (fieldAt_ok fa_8_23).2.2.2 (by decide +kernel) rfl dX8_init_25 ?_
  refine wt_aload_n rfl dX8_init_28 ?_
  refine wt_iconst ⟨by decide, by decide⟩ dX8_init_29 ?_
  refine wt_putI (k := 41) (ci := 8) (j := 4) (rs := [some (some 3), some (some 6), some (some 42), none, none, none]) (fieldAt_ok fa_8_27).1 ((fieldAt_ok fa_8_27).2.1 rfl) (fieldAt_ok fa_8_27).2.2.2 (by decide +kernel) rfl dX8_init_30 ?_
  refine wt_aload_n rfl dX8_init_33 ?_
  refine wt_iconst ⟨by decide, by decide⟩ dX8_init_34 ?_
  refine wt_putI (k := 41) (ci := 8) (j := 5) (rs := [some (some 3), some (some 6), some (some 42), none, none, none]) (fieldAt_ok fa_8_30).1 ((fieldAt_ok fa_8_30).2.1 rfl) (fieldAt_ok fa_8_30).2.2.2 (by decide +kernel) rfl dX8_init_35 ?_
  exact wt_return rfl dX8_init_38 ⟨rfl, rfl, rfl⟩
theorem cTable_init2_z {h : HP} (hz : Zr 42 h) : Zr 43 (up (up (up h 41 3 (-1)) 41 4 (-1)) 41 5 0) := (Zr.up (Zr.up (Zr.up (Zr.le hz (show 42 ≤ 43 by decide)) (show 41 < 43 by decide)) (show 41 < 43 by decide)) (show 41 < 43 by decide))
set_option maxRecDepth 100000 in
set_option maxHeartbeats 4000000 in
theorem cHelp_init1 {h : HP} (hz : Zr 1 h) : Tr mHelp_init 42 6060 [.inr (.inr 0)] ShC1 h (fun v sh' h' => v = none ∧ sh' = ShC95 ∧ h' = (up (up (up (up (up (up (up (up (up (up (up (up (up (up (up (up (up (up (up (up (up (up (cpy (up h 0 1 0) 1001 4 0 0 9) 6 3 0) 10 4 0) 15 3 0) 19 4 0) 19 5 0) 19 6 (-1)) 24 6 0) 24 7 1) 24 8 (-1)) 24 9 (-1)) 24 10 (-1)) 28 3 (-1)) 28 4 (-1)) 28 5 0) 27 5 0) 33 3 (-1)) 33 4 0) 33 5 0) 36 4 0) 41 3 (-1)) 41 4 (-1)) 41 5 0)) := by
  refine Tr.of rfl rfl (mem_TBL (List.mem_of_getElem? (i := 72) (by decide +kernel)) rfl) (Nat.le_of_ble_eq_true rfl) ?_
  show Wt mHelp_init 42 6060 0 0 0 [some (.inr (.inr 0))] [] ShC1 h _
  refine wt_aload_n rfl dX10_init_0 ?_
  refine wt_objInit (mem_TBL (List.mem_of_getElem? (i := 73) (by decide +kernel)) rfl) in_obj.1 in_obj.2 (by decide) (by decide) (by decide) dX10_init_1 ?_
  refine wt_aload_n rfl dX10_init_4 ?_
  refine wt_bipush (by decide) (by decide) dX10_init_5 ?_
  refine wt_newIn (n := 1) (N := 80) (sh' := ShC2) rfl rfl (by decide) (fun j => hz 1 (Nat.le_refl _) (by decide) j) (by decide) (by decide) (by decide) dX10_init_7 rfl ?_
  refine wt_putR (k := 0) (ci := 10) (j := 0) (q' := 1) (rs := [some none, none, some none, some none, some none, some none, some none, some none, some none, some none, some none, some none, some none]) (sh' := ShC3) (fieldAt_ok fa_10_9).1 (fun _ => ⟨rfl, rfl⟩) (fieldAt_ok fa_10_9).2.2.2 rfl rfl (by decide +kernel) dX10_init_9 rfl ?_
  refine wt_aload_n rfl dX10_init_12 ?_
  refine wt_iconst ⟨by decide, by decide⟩ dX10_init_13 ?_
  refine wt_putI (k := 0) (ci := 10) (j := 1) (rs := [some (some 1), none, some none, some none, some none, some none, some none, some none, some none, some none, some none, some none, some none]) (fieldAt_ok fa_10_13).1 ((fieldAt_ok fa_10_13).2.1 rfl) (fieldAt_ok fa_10_13).2.2.2 (by decide +kernel) rfl dX10_init_14 ?_
  refine wt_aload_n rfl dX10_init_17 ?_
  refine wt_bipush (by decide) (by decide) dX10_init_18 ?_
  refine wt_newIn (n := 2) (N := 12) (sh' := ShC4) rfl rfl (by decide) (fun j => (Zr.up (Zr.le hz (show 1 ≤ 2 by decide)) (show 0 < 2 by decide)) 2 (Nat.le_refl _) (by decide) j) (by decide) (by decide) (by decide) dX10_init_20 rfl ?_
  refine wt_putR (k := 0) (ci := 10) (j := 2) (q' := 2) (rs := [some (some 1), none, some none, some none, some none, some none, some none, some none, some none, some none, some none, some none, some none]) (sh' := ShC5) (fieldAt_ok fa_10_17).1 (fun _ => ⟨rfl, rfl⟩) (fieldAt_ok fa_10_17).2.2.2 rfl rfl (by decide +kernel) dX10_init_22 rfl ?_
  refine wt_aload_n rfl dX10_init_25 ?_
  refine wt_newn (n := 3) (ci := 7) (sh' := ShC6) rfl (by decide) (mem_TBL (List.mem_of_getElem? (i := 76) (by decide +kernel)) rfl) (mem_TBL (List.mem_of_getElem? (i := 77) (by decide +kernel)) rfl) (mem_TBL (List.mem_of_getElem? (i := 49) (by decide +kernel)) rfl) (fun j => (Zr.le (Zr.up (Zr.le hz (show 1 ≤ 2 by decide)) (show 0 < 2 by decide)) (show 2 ≤ 3 by decide)) 3 (Nat.le_refl _) (by decide) j) (by decide) (by decide) (by decide) dX10_init_26 rfl ?_
  refine wt_dup trivial dX10_init_29 ?_
  refine wt_callI (k := 3) (as := []) (S := [.inr (.inr 3), .inr (.inr 0)]) ⟨(mem_TBL (List.mem_of_getElem? (i := 78) (by decide +kernel)) rfl), (mem_TBL (List.mem_of_getElem? (i := 49) (by decide +kernel)) rfl), (mem_TBL (List.mem_of_getElem? (i := 80) (by decide +kernel)) rfl), rfl, by decide, by decide, by decide +kernel⟩ (mem_TBL (List.mem_of_getElem? (i := 79) (by decide +kernel)) rfl) rfl rfl (by decide) (by decide) (fun _ => cat_le (by decide)) (by decide) (by decide) (cSett_init1 (Zr.le (Zr.le (Zr.up (Zr.le hz (show 1 ≤ 2 by decide)) (show 0 < 2 by decide)) (show 2 ≤ 3 by decide)) (show 3 ≤ 4 by decide))) dX10_init_30 ?_
  rintro _ _ _ ⟨rfl, rfl, rfl⟩
  simp only [Option.toList_none, List.nil_append]
  refine wt_putR (k := 0) (ci := 10) (j := 3) (q' := 3) (rs := [some (some 1), none, some (some 2), some none, some none, some none, some none, some none, some none, some none, some none, some none, some none]) (sh' := ShC11) (fieldAt_ok fa_10_23).1 (fun _ => ⟨rfl, rfl⟩) (fieldAt_ok fa_10_23).2.2.2 rfl rfl (by decide +kernel) dX10_init_33 rfl ?_
  refine wt_aload_n rfl dX10_init_36 ?_
  refine wt_newn (n := 6) (ci := 2) (sh' := ShC12) rfl (by decide) (mem_TBL (List.mem_of_getElem? (i := 99) (by decide +kernel)) rfl) (mem_TBL (List.mem_of_getElem? (i := 100) (by decide +kernel)) rfl) (mem_TBL (List.mem_of_getElem? (i := 51) (by decide +kernel)) rfl) (fun j => (cSett_init1_z (Zr.le (Zr.le (Zr.up (Zr.le hz (show 1 ≤ 2 by decide)) (show 0 < 2 by decide)) (show 2 ≤ 3 by decide)) (show 3 ≤ 4 by decide))) 6 (Nat.le_refl _) (by decide) j) (by decide) (by decide) (by decide) dX10_init_37 rfl ?_
  refine wt_dup trivial dX10_init_40 ?_
  refine wt_callI (k := 6) (as := []) (S := [.inr (.inr 6), .inr (.inr 0)]) ⟨(mem_TBL (List.mem_of_getElem? (i := 101) (by decide +kernel)) rfl), (mem_TBL (List.mem_of_getElem? (i := 51) (by decide +kernel)) rfl), (mem_TBL (List.mem_of_getElem? (i := 103) (by decide +kernel)) rfl), rfl, by decide, by decide, by decide +kernel⟩ (mem_TBL (List.mem_of_getElem? (i := 102) (by decide +kernel)) rfl) rfl rfl (by decide) (by decide) (fun _ => cat_le (by decide)) (by decide) (by decide) (cNames_init1 (Zr.le (cSett_init1_z (Zr.le (Zr.le (Zr.up (Zr.le hz (show 1 ≤ 2 by decide)) (show 0 < 2 by decide)) (show 2 ≤ 3 by decide)) (show 3 ≤ 4 by decide))) (show 6 ≤ 7 by decide))) dX10_init_41 ?_
  rintro _ _ _ ⟨rfl, rfl, rfl⟩
  simp only [Option.toList_none, List.nil_append]
  refine wt_putR (k := 0) (ci := 10) (j := 4) (q' := 6) (rs := [some (some 1), none, some (some 2), some (some 3), some none, some none, some none, some none, some none, some none, some none, some none, some none]) (sh' := ShC19) (fieldAt_ok fa_10_30).1 (fun _ => ⟨rfl, rfl⟩) (fieldAt_ok fa_10_30).2.2.2 rfl rfl (by decide +kernel) dX10_init_44 rfl ?_
  refine wt_aload_n rfl dX10_init_47 ?_
  refine wt_newn (n := 10) (ci := 9) (sh' := ShC20) rfl (by decide) (mem_TBL (List.mem_of_getElem? (i := 129) (by decide +kernel)) rfl) (mem_TBL (List.mem_of_getElem? (i := 130) (by decide +kernel)) rfl) (mem_TBL (List.mem_of_getElem? (i := 52) (by decide +kernel)) rfl) (fun j => (cNames_init1_z (Zr.le (cSett_init1_z (Zr.le (Zr.le (Zr.up (Zr.le hz (show 1 ≤ 2 by decide)) (show 0 < 2 by decide)) (show 2 ≤ 3 by decide)) (show 3 ≤ 4 by decide))) (show 6 ≤ 7 by decide))) 10 (Nat.le_refl _) (by decide) j) (by decide) (by decide) (by decide) dX10_init_48 rfl ?_
  refine wt_dup trivial dX10_init_51 ?_
  refine wt_callI (k := 10) (as := []) (S := [.inr (.inr 10), .inr (.inr 0)]) ⟨(mem_TBL (List.mem_of_getElem? (i := 131) (by decide +kernel)) rfl), (mem_TBL (List.mem_of_getElem? (i := 52) (by decide +kernel)) rfl), (mem_TBL (List.mem_of_getElem? (i := 133) (by decide +kernel)) rfl), rfl, by decide, by decide, by decide +kernel⟩ (mem_TBL (List.mem_of_getElem? (i := 132) (by decide +kernel)) rfl) rfl rfl (by decide) (by decide) (fun _ => cat_le (by decide)) (by decide) (by decide) (cWords_init1 (Zr.le (cNames_init1_z (Zr.le (cSett_init1_z (Zr.le (Zr.le (Zr.up (Zr.le hz (show 1 ≤ 2 by decide)) (show 0 < 2 by decide)) (show 2 ≤ 3 by decide)) (show 3 ≤ 4 by decide))) (show 6 ≤ 7 by decide))) (show 10 ≤ 11 by decide))) dX10_init_52 ?_
  rintro _ _ _ ⟨rfl, rfl, rfl⟩
  simp only [Option.toList_none, List.nil_append]
  refine wt_putR (k := 0) (ci := 10) (j := 5) (q' := 10) (rs := [some (some 1), none, some (some 2), some (some 3), some (some 6), some none, some none, some none, some none, some none, some none, some none, some none]) (sh' := ShC29) (fieldAt_ok fa_10_37).1 (fun _ => ⟨rfl, rfl⟩) (fieldAt_ok fa_10_37).2.2.2 rfl rfl (by decide +kernel) dX10_init_55 rfl ?_
  refine wt_aload_n rfl dX10_init_58 ?_
  refine wt_newn (n := 15) (ci := 6) (sh' := ShC30) rfl (by decide) (mem_TBL (List.mem_of_getElem? (i := 158) (by decide +kernel)) rfl) (mem_TBL (List.mem_of_getElem? (i := 159) (by decide +kernel)) rfl) (mem_TBL (List.mem_of_getElem? (i := 53) (by decide +kernel)) rfl) (fun j => (cWords_init1_z (Zr.le (cNames_init1_z (Zr.le (cSett_init1_z (Zr.le (Zr.le (Zr.up (Zr.le hz (show 1 ≤ 2 by decide)) (show 0 < 2 by decide)) (show 2 ≤ 3 by decide)) (show 3 ≤ 4 by decide))) (show 6 ≤ 7 by decide))) (show 10 ≤ 11 by decide))) 15 (Nat.le_refl _) (by decide) j) (by decide) (by decide) (by decide) dX10_init_59 rfl ?_
  refine wt_dup trivial dX10_init_62 ?_
  refine wt_callI (k := 15) (as := []) (S := [.inr (.inr 15), .inr (.inr 0)]) ⟨(mem_TBL (List.mem_of_getElem? (i := 160) (by decide +kernel)) rfl), (mem_TBL (List.mem_of_getElem? (i := 53) (by decide +kernel)) rfl), (mem_TBL (List.mem_of_getElem? (i := 162) (by decide +kernel)) rfl), rfl, by decide, by decide, by decide +kernel⟩ (mem_TBL (List.mem_of_getElem? (i := 161) (by decide +kernel)) rfl) rfl rfl (by decide) (by decide) (fun _ => cat_le (by decide)) (by decide) (by decide) (cRules_init1 (Zr.le (cWords_init1_z (Zr.le (cNames_init1_z (Zr.le (cSett_init1_z (Zr.le (Zr.le (Zr.up (Zr.le hz (show 1 ≤ 2 by decide)) (show 0 < 2 by decide)) (show 2 ≤ 3 by decide)) (show 3 ≤ 4 by decide))) (show 6 ≤ 7 by decide))) (show 10 ≤ 11 by decide))) (show 15 ≤ 16 by decide))) dX10_init_63 ?_
  rintro _ _ _ ⟨rfl, rfl, rfl⟩
  simp only [Option.toList_none, List.nil_append]
  refine wt_putR (k := 0) (ci := 10) (j := 6) (q' := 15) (rs := [some (some 1), none, some (some 2), some (some 3), some (some 6), some (some 10), some none, some none, some none, some none, some none, some none, some none]) (sh' := ShC37) (fieldAt_ok fa_10_44).1 (fun _ => ⟨rfl, rfl⟩) (fieldAt_ok fa_10_44).2.2.2 rfl rfl (by decide +kernel) dX10_init_66 rfl ?_
  refine wt_aload_n rfl dX10_init_69 ?_
  refine wt_newn (n := 19) (ci := 0) (sh' := ShC38) rfl (by decide) (mem_TBL (List.mem_of_getElem? (i := 186) (by decide +kernel)) rfl) (mem_TBL (List.mem_of_getElem? (i := 187) (by decide +kernel)) rfl) (mem_TBL (List.mem_of_getElem? (i := 54) (by decide +kernel)) rfl) (fun j => (cRules_init1_z (Zr.le (cWords_init1_z (Zr.le (cNames_init1_z (Zr.le (cSett_init1_z (Zr.le (Zr.le (Zr.up (Zr.le hz (show 1 ≤ 2 by decide)) (show 0 < 2 by decide)) (show 2 ≤ 3 by decide)) (show 3 ≤ 4 by decide))) (show 6 ≤ 7 by decide))) (show 10 ≤ 11 by decide))) (show 15 ≤ 16 by decide))) 19 (Nat.le_refl _) (by decide) j) (by decide) (by decide) (by decide) dX10_init_70 rfl ?_
  refine wt_dup trivial dX10_init_73 ?_
  refine wt_callI (k := 19) (as := []) (S := [.inr (.inr 19), .inr (.inr 0)]) ⟨(mem_TBL (List.mem_of_getElem? (i := 188) (by decide +kernel)) rfl), (mem_TBL (List.mem_of_getElem? (i := 54) (by decide +kernel)) rfl), (mem_TBL (List.mem_of_getElem? (i := 190) (by decide +kernel)) rfl), rfl, by decide, by decide, by decide +kernel⟩ (mem_TBL (List.mem_of_getElem? (i := 189) (by decide +kernel)) rfl) rfl rfl (by decide) (by decide) (fun _ => cat_le (by decide)) (by decide) (by decide) (cLine_init1 (Zr.le (cRules_init1_z (Zr.le (cWords_init1_z (Zr.le (cNames_init1_z (Zr.le (cSett_init1_z (Zr.le (Zr.le (Zr.up (Zr.le hz (show 1 ≤ 2 by decide)) (show 0 < 2 by decide)) (show 2 ≤ 3 by decide)) (show 3 ≤ 4 by decide))) (show 6 ≤ 7 by decide))) (show 10 ≤ 11 by decide))) (show 15 ≤ 16 by decide))) (show 19 ≤ 20 by decide))) dX10_init_74 ?_
  rintro _ _ _ ⟨rfl, rfl, rfl⟩
  simp only [Option.toList_none, List.nil_append]
  refine wt_putR (k := 0) (ci := 10) (j := 7) (q' := 19) (rs := [some (some 1), none, some (some 2), some (some 3), some (some 6), some (some 10), some (some 15), some none, some none, some none, some none, some none, some none]) (sh' := ShC47) (fieldAt_ok fa_10_51).1 (fun _ => ⟨rfl, rfl⟩) (fieldAt_ok fa_10_51).2.2.2 rfl rfl (by decide +kernel) dX10_init_77 rfl ?_
  refine wt_aload_n rfl dX10_init_80 ?_
  refine wt_newn (n := 24) (ci := 5) (sh' := ShC48) rfl (by decide) (mem_TBL (List.mem_of_getElem? (i := 229) (by decide +kernel)) rfl) (mem_TBL (List.mem_of_getElem? (i := 230) (by decide +kernel)) rfl) (mem_TBL (List.mem_of_getElem? (i := 55) (by decide +kernel)) rfl) (fun j => (cLine_init1_z (Zr.le (cRules_init1_z (Zr.le (cWords_init1_z (Zr.le (cNames_init1_z (Zr.le (cSett_init1_z (Zr.le (Zr.le (Zr.up (Zr.le hz (show 1 ≤ 2 by decide)) (show 0 < 2 by decide)) (show 2 ≤ 3 by decide)) (show 3 ≤ 4 by decide))) (show 6 ≤ 7 by decide))) (show 10 ≤ 11 by decide))) (show 15 ≤ 16 by decide))) (show 19 ≤ 20 by decide))) 24 (Nat.le_refl _) (by decide) j) (by decide) (by decide) (by decide) dX10_init_81 rfl ?_
  refine wt_dup trivial dX10_init_84 ?_
  refine wt_aload_n rfl dX10_init_85 ?_
  refine wt_getR (k := 0) (ci := 10) (j := 7) (q := 19) (rs := [some (some 1), none, some (some 2), some (some 3), some (some 6), some (some 10), some (some 15), some (some 19), some none, some none, some none, some none, some none]) (fieldAt_ok fa_10_51).1 (by decide +kernel) rfl dX10_init_86 ?_
  refine wt_aload_n rfl dX10_init_89 ?_
  refine wt_getR (k := 0) (ci := 10) (j := 4) (q := 6) (rs := [some (some 1), none, some (some 2), some (some 3), some (some 6), some (some 10), some (some 15), some (some 19), some none, some none, some none, some none, some none]) (fieldAt_ok fa_10_30).1 (by decide +kernel) rfl dX10_init_90 ?_
  refine wt_aload_n rfl dX10_init_93 ?_
  refine wt_getR (k := 0) (ci := 10) (j := 5) (q := 10) (rs := [some (some 1), none, some (some 2), some (some 3), some (some 6), some (some 10), some (some 15), some (some 19), some none, some none, some none, some none, some none]) (fieldAt_ok fa_10_37).1 (by decide +kernel) rfl dX10_init_94 ?_
  refine wt_aload_n rfl dX10_init_97 ?_
  refine wt_getR (k := 0) (ci := 10) (j := 6) (q := 15) (rs := [some (some 1), none, some (some 2), some (some 3), some (some 6), some (some 10), some (some 15), some (some 19), some none, some none, some none, some none, some none]) (fieldAt_ok fa_10_44).1 (by decide +kernel) rfl dX10_init_98 ?_
  refine wt_callI (k := 24) (as := [.inr (.inr 19), .inr (.inr 6), .inr (.inr 10), .inr (.inr 15)]) (S := [.inr (.inr 24), .inr (.inr 0)]) ⟨(mem_TBL (List.mem_of_getElem? (i := 231) (by decide +kernel)) rfl), (mem_TBL (List.mem_of_getElem? (i := 55) (by decide +kernel)) rfl), (mem_TBL (List.mem_of_getElem? (i := 233) (by decide +kernel)) rfl), rfl, by decide, by decide, by decide +kernel⟩ (mem_TBL (List.mem_of_getElem? (i := 232) (by decide +kernel)) rfl) rfl rfl (by decide) (by decide) (fun _ => cat_le (by decide)) (by decide) (by decide) (cRead_init1 (Zr.le (cLine_init1_z (Zr.le (cRules_init1_z (Zr.le (cWords_init1_z (Zr.le (cNames_init1_z (Zr.le (cSett_init1_z (Zr.le (Zr.le (Zr.up (Zr.le hz (show 1 ≤ 2 by decide)) (show 0 < 2 by decide)) (show 2 ≤ 3 by decide)) (show 3 ≤ 4 by decide))) (show 6 ≤ 7 by decide))) (show 10 ≤ 11 by decide))) (show 15 ≤ 16 by decide))) (show 19 ≤ 20 by decide))) (show 24 ≤ 25 by decide))) dX10_init_101 ?_
  rintro _ _ _ ⟨rfl, rfl, rfl⟩
  simp only [Option.toList_none, List.nil_append]
  refine wt_putR (k := 0) (ci := 10) (j := 8) (q' := 24) (rs := [some (some 1), none, some (some 2), some (some 3), some (some 6), some (some 10), some (some 15), some (some 19), some none, some none, some none, some none, some none]) (sh' := ShC57) (fieldAt_ok fa_10_60).1 (fun _ => ⟨rfl, rfl⟩) (fieldAt_ok fa_10_60).2.2.2 rfl rfl (by decide +kernel) dX10_init_104 rfl ?_
  refine wt_aload_n rfl dX10_init_107 ?_
  refine wt_newn (n := 27) (ci := 4) (sh' := ShC58) rfl (by decide) (mem_TBL (List.mem_of_getElem? (i := 283) (by decide +kernel)) rfl) (mem_TBL (List.mem_of_getElem? (i := 284) (by decide +kernel)) rfl) (mem_TBL (List.mem_of_getElem? (i := 56) (by decide +kernel)) rfl) (fun j => (cRead_init1_z (Zr.le (cLine_init1_z (Zr.le (cRules_init1_z (Zr.le (cWords_init1_z (Zr.le (cNames_init1_z (Zr.le (cSett_init1_z (Zr.le (Zr.le (Zr.up (Zr.le hz (show 1 ≤ 2 by decide)) (show 0 < 2 by decide)) (show 2 ≤ 3 by decide)) (show 3 ≤ 4 by decide))) (show 6 ≤ 7 by decide))) (show 10 ≤ 11 by decide))) (show 15 ≤ 16 by decide))) (show 19 ≤ 20 by decide))) (show 24 ≤ 25 by decide))) 27 (Nat.le_refl _) (by decide) j) (by decide) (by decide) (by decide) dX10_init_108 rfl ?_
  refine wt_dup trivial dX10_init_111 ?_
  refine wt_aload_n rfl dX10_init_112 ?_
  refine wt_getR (k := 0) (ci := 10) (j := 8) (q := 24) (rs := [some (some 1), none, some (some 2), some (some 3), some (some 6), some (some 10), some (some 15), some (some 19), some (some 24), some none, some none, some none, some none]) (fieldAt_ok fa_10_60).1 (by decide +kernel) rfl dX10_init_113 ?_
  refine wt_newn (n := 28) (ci := 8) (sh' := ShC59) rfl (by decide) (mem_TBL (List.mem_of_getElem? (i := 285) (by decide +kernel)) rfl) (mem_TBL (List.mem_of_getElem? (i := 286) (by decide +kernel)) rfl) (mem_TBL (List.mem_of_getElem? (i := 57) (by decide +kernel)) rfl) (fun j => (Zr.le (cRead_init1_z (Zr.le (cLine_init1_z (Zr.le (cRules_init1_z (Zr.le (cWords_init1_z (Zr.le (cNames_init1_z (Zr.le (cSett_init1_z (Zr.le (Zr.le (Zr.up (Zr.le hz (show 1 ≤ 2 by decide)) (show 0 < 2 by decide)) (show 2 ≤ 3 by decide)) (show 3 ≤ 4 by decide))) (show 6 ≤ 7 by decide))) (show 10 ≤ 11 by decide))) (show 15 ≤ 16 by decide))) (show 19 ≤ 20 by decide))) (show 24 ≤ 25 by decide))) (show 27 ≤ 28 by decide)) 28 (Nat.le_refl _) (by decide) j) (by decide) (by decide) (by decide) dX10_init_116 rfl ?_
  refine wt_dup trivial dX10_init_119 ?_
  refine wt_aload_n rfl dX10_init_120 ?_
  refine wt_getR (k := 0) (ci := 10) (j := 3) (q := 3) (rs := [some (some 1), none, some (some 2), some (some 3), some (some 6), some (some 10), some (some 15), some (some 19), some (some 24), some none, some none, some none, some none]) (fieldAt_ok fa_10_23).1 (by decide +kernel) rfl dX10_init_121 ?_
  refine wt_aload_n rfl dX10_init_124 ?_
  refine wt_getR (k := 0) (ci := 10) (j := 4) (q := 6) (rs := [some (some 1), none, some (some 2), some (some 3), some (some 6), some (some 10), some (some 15), some (some 19), some (some 24), some none, some none, some none, some none]) (fieldAt_ok fa_10_30).1 (by decide +kernel) rfl dX10_init_125 ?_
  refine wt_callI (k := 28) (as := [.inr (.inr 3), .inr (.inr 6)]) (S := [.inr (.inr 28), .inr (.inr 24), .inr (.inr 27), .inr (.inr 27), .inr (.inr 0)]) ⟨(mem_TBL (List.mem_of_getElem? (i := 287) (by decide +kernel)) rfl), (mem_TBL (List.mem_of_getElem? (i := 57) (by decide +kernel)) rfl), (mem_TBL (List.mem_of_getElem? (i := 289) (by decide +kernel)) rfl), rfl, by decide, by decide, by decide +kernel⟩ (mem_TBL (List.mem_of_getElem? (i := 288) (by decide +kernel)) rfl) rfl rfl (by decide) (by decide) (fun _ => show (5 : Nat) ≤ 8 by decide) (by decide) (by decide) (cTable_init1 (Zr.le (Zr.le (cRead_init1_z (Zr.le (cLine_init1_z (Zr.le (cRules_init1_z (Zr.le (cWords_init1_z (Zr.le (cNames_init1_z (Zr.le (cSett_init1_z (Zr.le (Zr.le (Zr.up (Zr.le hz (show 1 ≤ 2 by decide)) (show 0 < 2 by decide)) (show 2 ≤ 3 by decide)) (show 3 ≤ 4 by decide))) (show 6 ≤ 7 by decide))) (show 10 ≤ 11 by decide))) (show 15 ≤ 16 by decide))) (show 19 ≤ 20 by decide))) (show 24 ≤ 25 by decide))) (show 27 ≤ 28 by decide)) (show 28 ≤ 29 by decide))) dX10_init_128 ?_
  rintro _ _ _ ⟨rfl, rfl, rfl⟩
  simp only [Option.toList_none, List.nil_append]
  refine wt_callI (k := 27) (as := [.inr (.inr 24), .inr (.inr 28)]) (S := [.inr (.inr 27), .inr (.inr 0)]) ⟨(mem_TBL (List.mem_of_getElem? (i := 314) (by decide +kernel)) rfl), (mem_TBL (List.mem_of_getElem? (i := 56) (by decide +kernel)) rfl), (mem_TBL (List.mem_of_getElem? (i := 316) (by decide +kernel)) rfl), rfl, by decide, by decide, by decide +kernel⟩ (mem_TBL (List.mem_of_getElem? (i := 315) (by decide +kernel)) rfl) rfl rfl (by decide) (by decide) (fun _ => cat_le (by decide)) (by decide) (by decide) (cProp_init1 (cTable_init1_z (Zr.le (Zr.le (cRead_init1_z (Zr.le (cLine_init1_z (Zr.le (cRules_init1_z (Zr.le (cWords_init1_z (Zr.le (cNames_init1_z (Zr.le (cSett_init1_z (Zr.le (Zr.le (Zr.up (Zr.le hz (show 1 ≤ 2 by decide)) (show 0 < 2 by decide)) (show 2 ≤ 3 by decide)) (show 3 ≤ 4 by decide))) (show 6 ≤ 7 by decide))) (show 10 ≤ 11 by decide))) (show 15 ≤ 16 by decide))) (show 19 ≤ 20 by decide))) (show 24 ≤ 25 by decide))) (show 27 ≤ 28 by decide)) (show 28 ≤ 29 by decide)))) dX10_init_131 ?_
  rintro _ _ _ ⟨rfl, rfl, rfl⟩
  simp only [Option.toList_none, List.nil_append]
  refine wt_putR (k := 0) (ci := 10) (j := 9) (q' := 27) (rs := [some (some 1), none, some (some 2), some (some 3), some (some 6), some (some 10), some (some 15), some (some 19), some (some 24), some none, some none, some none, some none]) (sh' := ShC72) (fieldAt_ok fa_10_74).1 (fun _ => ⟨rfl, rfl⟩) (fieldAt_ok fa_10_74).2.2.2 rfl rfl (by decide +kernel) dX10_init_134 rfl ?_
  refine wt_aload_n rfl dX10_init_137 ?_
  refine wt_newn (n := 33) (ci := 3) (sh' := ShC73) rfl (by decide) (mem_TBL (List.mem_of_getElem? (i := 341) (by decide +kernel)) rfl) (mem_TBL (List.mem_of_getElem? (i := 342) (by decide +kernel)) rfl) (mem_TBL (List.mem_of_getElem? (i := 58) (by decide +kernel)) rfl) (fun j => (cProp_init1_z (cTable_init1_z (Zr.le (Zr.le (cRead_init1_z (Zr.le (cLine_init1_z (Zr.le (cRules_init1_z (Zr.le (cWords_init1_z (Zr.le (cNames_init1_z (Zr.le (cSett_init1_z (Zr.le (Zr.le (Zr.up (Zr.le hz (show 1 ≤ 2 by decide)) (show 0 < 2 by decide)) (show 2 ≤ 3 by decide)) (show 3 ≤ 4 by decide))) (show 6 ≤ 7 by decide))) (show 10 ≤ 11 by decide))) (show 15 ≤ 16 by decide))) (show 19 ≤ 20 by decide))) (show 24 ≤ 25 by decide))) (show 27 ≤ 28 by decide)) (show 28 ≤ 29 by decide)))) 33 (Nat.le_refl _) (by decide) j) (by decide) (by decide) (by decide) dX10_init_138 rfl ?_
  refine wt_dup trivial dX10_init_141 ?_
  refine wt_aload_n rfl dX10_init_142 ?_
  refine wt_getR (k := 0) (ci := 10) (j := 8) (q := 24) (rs := [some (some 1), none, some (some 2), some (some 3), some (some 6), some (some 10), some (some 15), some (some 19), some (some 24), some (some 27), some none, some none, some none]) (fieldAt_ok fa_10_60).1 (by decide +kernel) rfl dX10_init_143 ?_
  refine wt_callI (k := 33) (as := [.inr (.inr 24)]) (S := [.inr (.inr 33), .inr (.inr 0)]) ⟨(mem_TBL (List.mem_of_getElem? (i := 343) (by decide +kernel)) rfl), (mem_TBL (List.mem_of_getElem? (i := 58) (by decide +kernel)) rfl), (mem_TBL (List.mem_of_getElem? (i := 345) (by decide +kernel)) rfl), rfl, by decide, by decide, by decide +kernel⟩ (mem_TBL (List.mem_of_getElem? (i := 344) (by decide +kernel)) rfl) rfl rfl (by decide) (by decide) (fun _ => cat_le (by decide)) (by decide) (by decide) (cNear_init1 (Zr.le (cProp_init1_z (cTable_init1_z (Zr.le (Zr.le (cRead_init1_z (Zr.le (cLine_init1_z (Zr.le (cRules_init1_z (Zr.le (cWords_init1_z (Zr.le (cNames_init1_z (Zr.le (cSett_init1_z (Zr.le (Zr.le (Zr.up (Zr.le hz (show 1 ≤ 2 by decide)) (show 0 < 2 by decide)) (show 2 ≤ 3 by decide)) (show 3 ≤ 4 by decide))) (show 6 ≤ 7 by decide))) (show 10 ≤ 11 by decide))) (show 15 ≤ 16 by decide))) (show 19 ≤ 20 by decide))) (show 24 ≤ 25 by decide))) (show 27 ≤ 28 by decide)) (show 28 ≤ 29 by decide)))) (show 33 ≤ 34 by decide))) dX10_init_146 ?_
  rintro _ _ _ ⟨rfl, rfl, rfl⟩
  simp only [Option.toList_none, List.nil_append]
  refine wt_putR (k := 0) (ci := 10) (j := 10) (q' := 33) (rs := [some (some 1), none, some (some 2), some (some 3), some (some 6), some (some 10), some (some 15), some (some 19), some (some 24), some (some 27), some none, some none, some none]) (sh' := ShC79) (fieldAt_ok fa_10_83).1 (fun _ => ⟨rfl, rfl⟩) (fieldAt_ok fa_10_83).2.2.2 rfl rfl (by decide +kernel) dX10_init_149 rfl ?_
  refine wt_aload_n rfl dX10_init_152 ?_
  refine wt_newn (n := 36) (ci := 1) (sh' := ShC80) rfl (by decide) (mem_TBL (List.mem_of_getElem? (i := 370) (by decide +kernel)) rfl) (mem_TBL (List.mem_of_getElem? (i := 371) (by decide +kernel)) rfl) (mem_TBL (List.mem_of_getElem? (i := 59) (by decide +kernel)) rfl) (fun j => (cNear_init1_z (Zr.le (cProp_init1_z (cTable_init1_z (Zr.le (Zr.le (cRead_init1_z (Zr.le (cLine_init1_z (Zr.le (cRules_init1_z (Zr.le (cWords_init1_z (Zr.le (cNames_init1_z (Zr.le (cSett_init1_z (Zr.le (Zr.le (Zr.up (Zr.le hz (show 1 ≤ 2 by decide)) (show 0 < 2 by decide)) (show 2 ≤ 3 by decide)) (show 3 ≤ 4 by decide))) (show 6 ≤ 7 by decide))) (show 10 ≤ 11 by decide))) (show 15 ≤ 16 by decide))) (show 19 ≤ 20 by decide))) (show 24 ≤ 25 by decide))) (show 27 ≤ 28 by decide)) (show 28 ≤ 29 by decide)))) (show 33 ≤ 34 by decide))) 36 (Nat.le_refl _) (by decide) j) (by decide) (by decide) (by decide) dX10_init_153 rfl ?_
  refine wt_dup trivial dX10_init_156 ?_
  refine wt_callI (k := 36) (as := []) (S := [.inr (.inr 36), .inr (.inr 0)]) ⟨(mem_TBL (List.mem_of_getElem? (i := 372) (by decide +kernel)) rfl), (mem_TBL (List.mem_of_getElem? (i := 59) (by decide +kernel)) rfl), (mem_TBL (List.mem_of_getElem? (i := 374) (by decide +kernel)) rfl), rfl, by decide, by decide, by decide +kernel⟩ (mem_TBL (List.mem_of_getElem? (i := 373) (by decide +kernel)) rfl) rfl rfl (by decide) (by decide) (fun _ => cat_le (by decide)) (by decide) (by decide) (cLog_init1 (Zr.le (cNear_init1_z (Zr.le (cProp_init1_z (cTable_init1_z (Zr.le (Zr.le (cRead_init1_z (Zr.le (cLine_init1_z (Zr.le (cRules_init1_z (Zr.le (cWords_init1_z (Zr.le (cNames_init1_z (Zr.le (cSett_init1_z (Zr.le (Zr.le (Zr.up (Zr.le hz (show 1 ≤ 2 by decide)) (show 0 < 2 by decide)) (show 2 ≤ 3 by decide)) (show 3 ≤ 4 by decide))) (show 6 ≤ 7 by decide))) (show 10 ≤ 11 by decide))) (show 15 ≤ 16 by decide))) (show 19 ≤ 20 by decide))) (show 24 ≤ 25 by decide))) (show 27 ≤ 28 by decide)) (show 28 ≤ 29 by decide)))) (show 33 ≤ 34 by decide))) (show 36 ≤ 37 by decide))) dX10_init_157 ?_
  rintro _ _ _ ⟨rfl, rfl, rfl⟩
  simp only [Option.toList_none, List.nil_append]
  refine wt_putR (k := 0) (ci := 10) (j := 11) (q' := 36) (rs := [some (some 1), none, some (some 2), some (some 3), some (some 6), some (some 10), some (some 15), some (some 19), some (some 24), some (some 27), some (some 33), some none, some none]) (sh' := ShC89) (fieldAt_ok fa_10_90).1 (fun _ => ⟨rfl, rfl⟩) (fieldAt_ok fa_10_90).2.2.2 rfl rfl (by decide +kernel) dX10_init_160 rfl ?_
  refine wt_aload_n rfl dX10_init_163 ?_
  refine wt_newn (n := 41) (ci := 8) (sh' := ShC90) rfl (by decide) (mem_TBL (List.mem_of_getElem? (i := 285) (by decide +kernel)) rfl) (mem_TBL (List.mem_of_getElem? (i := 286) (by decide +kernel)) rfl) (mem_TBL (List.mem_of_getElem? (i := 57) (by decide +kernel)) rfl) (fun j => (cLog_init1_z (Zr.le (cNear_init1_z (Zr.le (cProp_init1_z (cTable_init1_z (Zr.le (Zr.le (cRead_init1_z (Zr.le (cLine_init1_z (Zr.le (cRules_init1_z (Zr.le (cWords_init1_z (Zr.le (cNames_init1_z (Zr.le (cSett_init1_z (Zr.le (Zr.le (Zr.up (Zr.le hz (show 1 ≤ 2 by decide)) (show 0 < 2 by decide)) (show 2 ≤ 3 by decide)) (show 3 ≤ 4 by decide))) (show 6 ≤ 7 by decide))) (show 10 ≤ 11 by decide))) (show 15 ≤ 16 by decide))) (show 19 ≤ 20 by decide))) (show 24 ≤ 25 by decide))) (show 27 ≤ 28 by decide)) (show 28 ≤ 29 by decide)))) (show 33 ≤ 34 by decide))) (show 36 ≤ 37 by decide))) 41 (Nat.le_refl _) (by decide) j) (by decide) (by decide) (by decide) dX10_init_164 rfl ?_
  refine wt_dup trivial dX10_init_167 ?_
  refine wt_aload_n rfl dX10_init_168 ?_
  refine wt_getR (k := 0) (ci := 10) (j := 3) (q := 3) (rs := [some (some 1), none, some (some 2), some (some 3), some (some 6), some (some 10), some (some 15), some (some 19), some (some 24), some (some 27), some (some 33), some (some 36), some none]) (fieldAt_ok fa_10_23).1 (by decide +kernel) rfl dX10_init_169 ?_
  refine wt_aload_n rfl dX10_init_172 ?_
  refine wt_getR (k := 0) (ci := 10) (j := 4) (q := 6) (rs := [some (some 1), none, some (some 2), some (some 3), some (some 6), some (some 10), some (some 15), some (some 19), some (some 24), some (some 27), some (some 33), some (some 36), some none]) (fieldAt_ok fa_10_30).1 (by decide +kernel) rfl dX10_init_173 ?_
  refine wt_callI (k := 41) (as := [.inr (.inr 3), .inr (.inr 6)]) (S := [.inr (.inr 41), .inr (.inr 0)]) ⟨(mem_TBL (List.mem_of_getElem? (i := 287) (by decide +kernel)) rfl), (mem_TBL (List.mem_of_getElem? (i := 57) (by decide +kernel)) rfl), (mem_TBL (List.mem_of_getElem? (i := 289) (by decide +kernel)) rfl), rfl, by decide, by decide, by decide +kernel⟩ (mem_TBL (List.mem_of_getElem? (i := 288) (by decide +kernel)) rfl) rfl rfl (by decide) (by decide) (fun _ => cat_le (by decide)) (by decide) (by decide) (cTable_init2 (Zr.le (cLog_init1_z (Zr.le (cNear_init1_z (Zr.le (cProp_init1_z (cTable_init1_z (Zr.le (Zr.le (cRead_init1_z (Zr.le (cLine_init1_z (Zr.le (cRules_init1_z (Zr.le (cWords_init1_z (Zr.le (cNames_init1_z (Zr.le (cSett_init1_z (Zr.le (Zr.le (Zr.up (Zr.le hz (show 1 ≤ 2 by decide)) (show 0 < 2 by decide)) (show 2 ≤ 3 by decide)) (show 3 ≤ 4 by decide))) (show 6 ≤ 7 by decide))) (show 10 ≤ 11 by decide))) (show 15 ≤ 16 by decide))) (show 19 ≤ 20 by decide))) (show 24 ≤ 25 by decide))) (show 27 ≤ 28 by decide)) (show 28 ≤ 29 by decide)))) (show 33 ≤ 34 by decide))) (show 36 ≤ 37 by decide))) (show 41 ≤ 42 by decide))) dX10_init_176 ?_
  rintro _ _ _ ⟨rfl, rfl, rfl⟩
  simp only [Option.toList_none, List.nil_append]
  refine wt_putR (k := 0) (ci := 10) (j := 12) (q' := 41) (rs := [some (some 1), none, some (some 2), some (some 3), some (some 6), some (some 10), some (some 15), some (some 19), some (some 24), some (some 27), some (some 33), some (some 36), some none]) (sh' := ShC95) (fieldAt_ok fa_10_94).1 (fun _ => ⟨rfl, rfl⟩) (fieldAt_ok fa_10_94).2.2.2 rfl rfl (by decide +kernel) dX10_init_179 rfl ?_
  exact wt_return rfl dX10_init_182 ⟨rfl, rfl, rfl⟩
theorem cHelp_init1_z {h : HP} (hz : Zr 1 h) : Zr 43 (up (up (up (up (up (up (up (up (up (up (up (up (up (up (up (up (up (up (up (up (up (up (cpy (up h 0 1 0) 1001 4 0 0 9) 6 3 0) 10 4 0) 15 3 0) 19 4 0) 19 5 0) 19 6 (-1)) 24 6 0) 24 7 1) 24 8 (-1)) 24 9 (-1)) 24 10 (-1)) 28 3 (-1)) 28 4 (-1)) 28 5 0) 27 5 0) 33 3 (-1)) 33 4 0) 33 5 0) 36 4 0) 41 3 (-1)) 41 4 (-1)) 41 5 0) := (cTable_init2_z (Zr.le (cLog_init1_z (Zr.le (cNear_init1_z (Zr.le (cProp_init1_z (cTable_init1_z (Zr.le (Zr.le (cRead_init1_z (Zr.le (cLine_init1_z (Zr.le (cRules_init1_z (Zr.le (cWords_init1_z (Zr.le (cNames_init1_z (Zr.le (cSett_init1_z (Zr.le (Zr.le (Zr.up (Zr.le hz (show 1 ≤ 2 by decide)) (show 0 < 2 by decide)) (show 2 ≤ 3 by decide)) (show 3 ≤ 4 by decide))) (show 6 ≤ 7 by decide))) (show 10 ≤ 11 by decide))) (show 15 ≤ 16 by decide))) (show 19 ≤ 20 by decide))) (show 24 ≤ 25 by decide))) (show 27 ≤ 28 by decide)) (show 28 ≤ 29 by decide)))) (show 33 ≤ 34 by decide))) (show 36 ≤ 37 by decide))) (show 41 ≤ 42 by decide)))
set_option maxRecDepth 100000 in
set_option maxHeartbeats 4000000 in
theorem cModel_init1 {h : HP} (hz : Zr 44 h) : Tr mModel_init 33 7218 [.inr (.inr 43)] ShC96 h (fun v sh' h' => v = none ∧ sh' = ShC162 ∧ h' = (up (up (up (up (up (up (up (up (up (up (up h 43 21 (-1)) 43 52 (-1)) 54 0 2) 54 1 2) 54 2 3) 54 3 2) 54 4 2) 54 5 4) 54 6 0) 54 7 1) 54 8 3)) := by
  refine Tr.of rfl rfl (mem_TBL (List.mem_of_getElem? (i := 882) (by decide +kernel)) rfl) (Nat.le_of_ble_eq_true rfl) ?_
  show Wt mModel_init 33 7218 0 0 0 [some (.inr (.inr 43)), none] [] ShC96 h _
  refine wt_aload_n rfl dX11_init_0 ?_
  refine wt_objInit (mem_TBL (List.mem_of_getElem? (i := 883) (by decide +kernel)) rfl) in_obj.1 in_obj.2 (by decide) (by decide) (by decide) dX11_init_1 ?_
  refine wt_aload_n rfl dX11_init_4 ?_
  refine wt_bipush (by decide) (by decide) dX11_init_5 ?_
  refine wt_newIn (n := 44) (N := 60) (sh' := ShC97) rfl rfl (by decide) (fun j => hz 44 (Nat.le_refl _) (by decide) j) (by decide) (by decide) (by decide) dX11_init_7 rfl ?_
  refine wt_putR (k := 43) (ci := 11) (j := 2) (q' := 44) (rs := [none, none, some none, some none, some none, some none, none, some none, some none, some none, none, some none, some none, some none, some none, some none, none, some none, none, some none, some none, none, none, some none, some none, some none, none, some none, some none, none, none, some none, some none, none, none, none, some none, some none, some none, none, some none, some none, some none, some none, some none, none, none, some none, none, none, some none, some none, none, none]) (sh' := ShC98) (fieldAt_ok fa_11_13).1 (fun _ => ⟨rfl, rfl⟩) (fieldAt_ok fa_11_13).2.2.2 rfl rfl (by decide +kernel) dX11_init_9 rfl ?_
  refine wt_aload_n rfl dX11_init_12 ?_
  refine wt_bipush (by decide) (by decide) dX11_init_13 ?_
  refine wt_newZn (n := 45) (N := 60) (sh' := ShC99) rfl rfl (by decide) (fun j => (Zr.le hz (show 44 ≤ 45 by decide)) 45 (Nat.le_refl _) (by decide) j) (by decide) (by decide) (by decide) dX11_init_15 rfl ?_
  refine wt_putR (k := 43) (ci := 11) (j := 3) (q' := 45) (rs := [none, none, some (some 44), some none, some none, some none, none, some none, some none, some none, none, some none, some none, some none, some none, some none, none, some none, none, some none, some none, none, none, some none, some none, some none, none, some none, some none, none, none, some none, some none, none, none, none, some none, some none, some none, none, some none, some none, some none, some none, some none, none, none, some none, none, none, some none, some none, none, none]) (sh' := ShC100) (fieldAt_ok fa_11_17).1 (fun _ => ⟨rfl, rfl⟩) (fieldAt_ok fa_11_17).2.2.2 rfl rfl (by decide +kernel) dX11_init_17 rfl ?_
  refine wt_aload_n rfl dX11_init_20 ?_
  refine wt_bipush (by decide) (by decide) dX11_init_21 ?_
  refine wt_newZn (n := 46) (N := 60) (sh' := ShC101) rfl rfl (by decide) (fun j => (Zr.le (Zr.le hz (show 44 ≤ 45 by decide)) (show 45 ≤ 46 by decide)) 46 (Nat.le_refl _) (by decide) j) (by decide) (by decide) (by decide) dX11_init_23 rfl ?_
  refine wt_putR (k := 43) (ci := 11) (j := 4) (q' := 46) (rs := [none, none, some (some 44), some (some 45), some none, some none, none, some none, some none, some none, none, some none, some none, some none, some none, some none, none, some none, none, some none, some none, none, none, some none, some none, some none, none, some none, some none, none, none, some none, some none, none, none, none, some none, some none, some none, none, some none, some none, some none, some none, some none, none, none, some none, none, none, some none, some none, none, none]) (sh' := ShC102) (fieldAt_ok fa_11_21).1 (fun _ => ⟨rfl, rfl⟩) (fieldAt_ok fa_11_21).2.2.2 rfl rfl (by decide +kernel) dX11_init_25 rfl ?_
  refine wt_aload_n rfl dX11_init_28 ?_
  refine wt_bipush (by decide) (by decide) dX11_init_29 ?_
  refine wt_newIn (n := 47) (N := 60) (sh' := ShC103) rfl rfl (by decide) (fun j => (Zr.le (Zr.le (Zr.le hz (show 44 ≤ 45 by decide)) (show 45 ≤ 46 by decide)) (show 46 ≤ 47 by decide)) 47 (Nat.le_refl _) (by decide) j) (by decide) (by decide) (by decide) dX11_init_31 rfl ?_
  refine wt_putR (k := 43) (ci := 11) (j := 5) (q' := 47) (rs := [none, none, some (some 44), some (some 45), some (some 46), some none, none, some none, some none, some none, none, some none, some none, some none, some none, some none, none, some none, none, some none, some none, none, none, some none, some none, some none, none, some none, some none, none, none, some none, some none, none, none, none, some none, some none, some none, none, some none, some none, some none, some none, some none, none, none, some none, none, none, some none, some none, none, none]) (sh' := ShC104) (fieldAt_ok fa_11_24).1 (fun _ => ⟨rfl, rfl⟩) (fieldAt_ok fa_11_24).2.2.2 rfl rfl (by decide +kernel) dX11_init_33 rfl ?_
  refine wt_aload_n rfl dX11_init_36 ?_
  refine wt_sipush (by decide) (by decide) dX11_init_37 ?_
  refine wt_newIn (n := 48) (N := 1080) (sh' := ShC105) rfl rfl (by decide) (fun j => (Zr.le (Zr.le (Zr.le (Zr.le hz (show 44 ≤ 45 by decide)) (show 45 ≤ 46 by decide)) (show 46 ≤ 47 by decide)) (show 47 ≤ 48 by decide)) 48 (Nat.le_refl _) (by decide) j) (by decide) (by decide) (by decide) dX11_init_40 rfl ?_
  refine wt_putR (k := 43) (ci := 11) (j := 7) (q' := 48) (rs := [none, none, some (some 44), some (some 45), some (some 46), some (some 47), none, some none, some none, some none, none, some none, some none, some none, some none, some none, none, some none, none, some none, some none, none, none, some none, some none, some none, none, some none, some none, none, none, some none, some none, none, none, none, some none, some none, some none, none, some none, some none, some none, some none, some none, none, none, some none, none, none, some none, some none, none, none]) (sh' := ShC106) (fieldAt_ok fa_11_27).1 (fun _ => ⟨rfl, rfl⟩) (fieldAt_ok fa_11_27).2.2.2 rfl rfl (by decide +kernel) dX11_init_42 rfl ?_
  refine wt_aload_n rfl dX11_init_45 ?_
  refine wt_bipush (by decide) (by decide) dX11_init_46 ?_
  refine wt_newIn (n := 49) (N := 90) (sh' := ShC107) rfl rfl (by decide) (fun j => (Zr.le (Zr.le (Zr.le (Zr.le (Zr.le hz (show 44 ≤ 45 by decide)) (show 45 ≤ 46 by decide)) (show 46 ≤ 47 by decide)) (show 47 ≤ 48 by decide)) (show 48 ≤ 49 by decide)) 49 (Nat.le_refl _) (by decide) j) (by decide) (by decide) (by decide) dX11_init_48 rfl ?_
  refine wt_putR (k := 43) (ci := 11) (j := 8) (q' := 49) (rs := [none, none, some (some 44), some (some 45), some (some 46), some (some 47), none, some (some 48), some none, some none, none, some none, some none, some none, some none, some none, none, some none, none, some none, some none, none, none, some none, some none, some none, none, some none, some none, none, none, some none, some none, none, none, none, some none, some none, some none, none, some none, some none, some none, some none, some none, none, none, some none, none, none, some none, some none, none, none]) (sh' := ShC108) (fieldAt_ok fa_11_30).1 (fun _ => ⟨rfl, rfl⟩) (fieldAt_ok fa_11_30).2.2.2 rfl rfl (by decide +kernel) dX11_init_50 rfl ?_
  refine wt_aload_n rfl dX11_init_53 ?_
  refine wt_bipush (by decide) (by decide) dX11_init_54 ?_
  refine wt_newIn (n := 50) (N := 90) (sh' := ShC109) rfl rfl (by decide) (fun j => (Zr.le (Zr.le (Zr.le (Zr.le (Zr.le (Zr.le hz (show 44 ≤ 45 by decide)) (show 45 ≤ 46 by decide)) (show 46 ≤ 47 by decide)) (show 47 ≤ 48 by decide)) (show 48 ≤ 49 by decide)) (show 49 ≤ 50 by decide)) 50 (Nat.le_refl _) (by decide) j) (by decide) (by decide) (by decide) dX11_init_56 rfl ?_
  refine wt_putR (k := 43) (ci := 11) (j := 9) (q' := 50) (rs := [none, none, some (some 44), some (some 45), some (some 46), some (some 47), none, some (some 48), some (some 49), some none, none, some none, some none, some none, some none, some none, none, some none, none, some none, some none, none, none, some none, some none, some none, none, some none, some none, none, none, some none, some none, none, none, none, some none, some none, some none, none, some none, some none, some none, some none, some none, none, none, some none, none, none, some none, some none, none, none]) (sh' := ShC110) (fieldAt_ok fa_11_33).1 (fun _ => ⟨rfl, rfl⟩) (fieldAt_ok fa_11_33).2.2.2 rfl rfl (by decide +kernel) dX11_init_58 rfl ?_
  refine wt_aload_n rfl dX11_init_61 ?_
  refine wt_bipush (by decide) (by decide) dX11_init_62 ?_
  refine wt_newIn (n := 51) (N := 40) (sh' := ShC111) rfl rfl (by decide) (fun j => (Zr.le (Zr.le (Zr.le (Zr.le (Zr.le (Zr.le (Zr.le hz (show 44 ≤ 45 by decide)) (show 45 ≤ 46 by decide)) (show 46 ≤ 47 by decide)) (show 47 ≤ 48 by decide)) (show 48 ≤ 49 by decide)) (show 49 ≤ 50 by decide)) (show 50 ≤ 51 by decide)) 51 (Nat.le_refl _) (by decide) j) (by decide) (by decide) (by decide) dX11_init_64 rfl ?_
  refine wt_putR (k := 43) (ci := 11) (j := 11) (q' := 51) (rs := [none, none, some (some 44), some (some 45), some (some 46), some (some 47), none, some (some 48), some (some 49), some (some 50), none, some none, some none, some none, some none, some none, none, some none, none, some none, some none, none, none, some none, some none, some none, none, some none, some none, none, none, some none, some none, none, none, none, some none, some none, some none, none, some none, some none, some none, some none, some none, none, none, some none, none, none, some none, some none, none, none]) (sh' := ShC112) (fieldAt_ok fa_11_36).1 (fun _ => ⟨rfl, rfl⟩) (fieldAt_ok fa_11_36).2.2.2 rfl rfl (by decide +kernel) dX11_init_66 rfl ?_
  refine wt_aload_n rfl dX11_init_69 ?_
  refine wt_sipush (by decide) (by decide) dX11_init_70 ?_
  refine wt_newIn (n := 52) (N := 160) (sh' := ShC113) rfl rfl (by decide) (fun j => (Zr.le (Zr.le (Zr.le (Zr.le (Zr.le (Zr.le (Zr.le (Zr.le hz (show 44 ≤ 45 by decide)) (show 45 ≤ 46 by decide)) (show 46 ≤ 47 by decide)) (show 47 ≤ 48 by decide)) (show 48 ≤ 49 by decide)) (show 49 ≤ 50 by decide)) (show 50 ≤ 51 by decide)) (show 51 ≤ 52 by decide)) 52 (Nat.le_refl _) (by decide) j) (by decide) (by decide) (by decide) dX11_init_73 rfl ?_
  refine wt_putR (k := 43) (ci := 11) (j := 12) (q' := 52) (rs := [none, none, some (some 44), some (some 45), some (some 46), some (some 47), none, some (some 48), some (some 49), some (some 50), none, some (some 51), some none, some none, some none, some none, none, some none, none, some none, some none, none, none, some none, some none, some none, none, some none, some none, none, none, some none, some none, none, none, none, some none, some none, some none, none, some none, some none, some none, some none, some none, none, none, some none, none, none, some none, some none, none, none]) (sh' := ShC114) (fieldAt_ok fa_11_39).1 (fun _ => ⟨rfl, rfl⟩) (fieldAt_ok fa_11_39).2.2.2 rfl rfl (by decide +kernel) dX11_init_75 rfl ?_
  refine wt_aload_n rfl dX11_init_78 ?_
  refine wt_bipush (by decide) (by decide) dX11_init_79 ?_
  refine wt_newIn (n := 53) (N := 40) (sh' := ShC115) rfl rfl (by decide) (fun j => (Zr.le (Zr.le (Zr.le (Zr.le (Zr.le (Zr.le (Zr.le (Zr.le (Zr.le hz (show 44 ≤ 45 by decide)) (show 45 ≤ 46 by decide)) (show 46 ≤ 47 by decide)) (show 47 ≤ 48 by decide)) (show 48 ≤ 49 by decide)) (show 49 ≤ 50 by decide)) (show 50 ≤ 51 by decide)) (show 51 ≤ 52 by decide)) (show 52 ≤ 53 by decide)) 53 (Nat.le_refl _) (by decide) j) (by decide) (by decide) (by decide) dX11_init_81 rfl ?_
  refine wt_putR (k := 43) (ci := 11) (j := 13) (q' := 53) (rs := [none, none, some (some 44), some (some 45), some (some 46), some (some 47), none, some (some 48), some (some 49), some (some 50), none, some (some 51), some (some 52), some none, some none, some none, none, some none, none, some none, some none, none, none, some none, some none, some none, none, some none, some none, none, none, some none, some none, none, none, none, some none, some none, some none, none, some none, some none, some none, some none, some none, none, none, some none, none, none, some none, some none, none, none]) (sh' := ShC116) (fieldAt_ok fa_11_42).1 (fun _ => ⟨rfl, rfl⟩) (fieldAt_ok fa_11_42).2.2.2 rfl rfl (by decide +kernel) dX11_init_83 rfl ?_
  refine wt_aload_n rfl dX11_init_86 ?_
  refine wt_bipush (by decide) (by decide) dX11_init_87 ?_
  refine wt_newIn (n := 54) (N := 9) (sh' := ShC117) rfl rfl (by decide) (fun j => (Zr.le (Zr.le (Zr.le (Zr.le (Zr.le (Zr.le (Zr.le (Zr.le (Zr.le (Zr.le hz (show 44 ≤ 45 by decide)) (show 45 ≤ 46 by decide)) (show 46 ≤ 47 by decide)) (show 47 ≤ 48 by decide)) (show 48 ≤ 49 by decide)) (show 49 ≤ 50 by decide)) (show 50 ≤ 51 by decide)) (show 51 ≤ 52 by decide)) (show 52 ≤ 53 by decide)) (show 53 ≤ 54 by decide)) 54 (Nat.le_refl _) (by decide) j) (by decide) (by decide) (by decide) dX11_init_89 rfl ?_
  refine wt_putR (k := 43) (ci := 11) (j := 14) (q' := 54) (rs := [none, none, some (some 44), some (some 45), some (some 46), some (some 47), none, some (some 48), some (some 49), some (some 50), none, some (some 51), some (some 52), some (some 53), some none, some none, none, some none, none, some none, some none, none, none, some none, some none, some none, none, some none, some none, none, none, some none, some none, none, none, none, some none, some none, some none, none, some none, some none, some none, some none, some none, none, none, some none, none, none, some none, some none, none, none]) (sh' := ShC118) (fieldAt_ok fa_11_45).1 (fun _ => ⟨rfl, rfl⟩) (fieldAt_ok fa_11_45).2.2.2 rfl rfl (by decide +kernel) dX11_init_91 rfl ?_
  refine wt_aload_n rfl dX11_init_94 ?_
  refine wt_sipush (by decide) (by decide) dX11_init_95 ?_
  refine wt_newZn (n := 55) (N := 676) (sh' := ShC119) rfl rfl (by decide) (fun j => (Zr.le (Zr.le (Zr.le (Zr.le (Zr.le (Zr.le (Zr.le (Zr.le (Zr.le (Zr.le (Zr.le hz (show 44 ≤ 45 by decide)) (show 45 ≤ 46 by decide)) (show 46 ≤ 47 by decide)) (show 47 ≤ 48 by decide)) (show 48 ≤ 49 by decide)) (show 49 ≤ 50 by decide)) (show 50 ≤ 51 by decide)) (show 51 ≤ 52 by decide)) (show 52 ≤ 53 by decide)) (show 53 ≤ 54 by decide)) (show 54 ≤ 55 by decide)) 55 (Nat.le_refl _) (by decide) j) (by decide) (by decide) (by decide) dX11_init_98 rfl ?_
  refine wt_putR (k := 43) (ci := 11) (j := 15) (q' := 55) (rs := [none, none, some (some 44), some (some 45), some (some 46), some (some 47), none, some (some 48), some (some 49), some (some 50), none, some (some 51), some (some 52), some (some 53), some (some 54), some none, none, some none, none, some none, some none, none, none, some none, some none, some none, none, some none, some none, none, none, some none, some none, none, none, none, some none, some none, some none, none, some none, some none, some none, some none, some none, none, none, some none, none, none, some none, some none, none, none]) (sh' := ShC120) (fieldAt_ok fa_11_48).1 (fun _ => ⟨rfl, rfl⟩) (fieldAt_ok fa_11_48).2.2.2 rfl rfl (by decide +kernel) dX11_init_100 rfl ?_
  refine wt_aload_n rfl dX11_init_103 ?_
  refine wt_bipush (by decide) (by decide) dX11_init_104 ?_
  refine wt_newIn (n := 56) (N := 80) (sh' := ShC121) rfl rfl (by decide) (fun j => (Zr.le (Zr.le (Zr.le (Zr.le (Zr.le (Zr.le (Zr.le (Zr.le (Zr.le (Zr.le (Zr.le (Zr.le hz (show 44 ≤ 45 by decide)) (show 45 ≤ 46 by decide)) (show 46 ≤ 47 by decide)) (show 47 ≤ 48 by decide)) (show 48 ≤ 49 by decide)) (show 49 ≤ 50 by decide)) (show 50 ≤ 51 by decide)) (show 51 ≤ 52 by decide)) (show 52 ≤ 53 by decide)) (show 53 ≤ 54 by decide)) (show 54 ≤ 55 by decide)) (show 55 ≤ 56 by decide)) 56 (Nat.le_refl _) (by decide) j) (by decide) (by decide) (by decide) dX11_init_106 rfl ?_
  refine wt_putR (k := 43) (ci := 11) (j := 17) (q' := 56) (rs := [none, none, some (some 44), some (some 45), some (some 46), some (some 47), none, some (some 48), some (some 49), some (some 50), none, some (some 51), some (some 52), some (some 53), some (some 54), some (some 55), none, some none, none, some none, some none, none, none, some none, some none, some none, none, some none, some none, none, none, some none, some none, none, none, none, some none, some none, some none, none, some none, some none, some none, some none, some none, none, none, some none, none, none, some none, some none, none, none]) (sh' := ShC122) (fieldAt_ok fa_11_51).1 (fun _ => ⟨rfl, rfl⟩) (fieldAt_ok fa_11_51).2.2.2 rfl rfl (by decide +kernel) dX11_init_108 rfl ?_
  refine wt_aload_n rfl dX11_init_111 ?_
  refine wt_sipush (by decide) (by decide) dX11_init_112 ?_
  refine wt_newIn (n := 57) (N := 300) (sh' := ShC123) rfl rfl (by decide) (fun j => (Zr.le (Zr.le (Zr.le (Zr.le (Zr.le (Zr.le (Zr.le (Zr.le (Zr.le (Zr.le (Zr.le (Zr.le (Zr.le hz (show 44 ≤ 45 by decide)) (show 45 ≤ 46 by decide)) (show 46 ≤ 47 by decide)) (show 47 ≤ 48 by decide)) (show 48 ≤ 49 by decide)) (show 49 ≤ 50 by decide)) (show 50 ≤ 51 by decide)) (show 51 ≤ 52 by decide)) (show 52 ≤ 53 by decide)) (show 53 ≤ 54 by decide)) (show 54 ≤ 55 by decide)) (show 55 ≤ 56 by decide)) (show 56 ≤ 57 by decide)) 57 (Nat.le_refl _) (by decide) j) (by decide) (by decide) (by decide) dX11_init_115 rfl ?_
  refine wt_putR (k := 43) (ci := 11) (j := 19) (q' := 57) (rs := [none, none, some (some 44), some (some 45), some (some 46), some (some 47), none, some (some 48), some (some 49), some (some 50), none, some (some 51), some (some 52), some (some 53), some (some 54), some (some 55), none, some (some 56), none, some none, some none, none, none, some none, some none, some none, none, some none, some none, none, none, some none, some none, none, none, none, some none, some none, some none, none, some none, some none, some none, some none, some none, none, none, some none, none, none, some none, some none, none, none]) (sh' := ShC124) (fieldAt_ok fa_11_54).1 (fun _ => ⟨rfl, rfl⟩) (fieldAt_ok fa_11_54).2.2.2 rfl rfl (by decide +kernel) dX11_init_117 rfl ?_
  refine wt_aload_n rfl dX11_init_120 ?_
  refine wt_sipush (by decide) (by decide) dX11_init_121 ?_
  refine wt_newIn (n := 58) (N := 300) (sh' := ShC125) rfl rfl (by decide) (fun j => (Zr.le (Zr.le (Zr.le (Zr.le (Zr.le (Zr.le (Zr.le (Zr.le (Zr.le (Zr.le (Zr.le (Zr.le (Zr.le (Zr.le hz (show 44 ≤ 45 by decide)) (show 45 ≤ 46 by decide)) (show 46 ≤ 47 by decide)) (show 47 ≤ 48 by decide)) (show 48 ≤ 49 by decide)) (show 49 ≤ 50 by decide)) (show 50 ≤ 51 by decide)) (show 51 ≤ 52 by decide)) (show 52 ≤ 53 by decide)) (show 53 ≤ 54 by decide)) (show 54 ≤ 55 by decide)) (show 55 ≤ 56 by decide)) (show 56 ≤ 57 by decide)) (show 57 ≤ 58 by decide)) 58 (Nat.le_refl _) (by decide) j) (by decide) (by decide) (by decide) dX11_init_124 rfl ?_
  refine wt_putR (k := 43) (ci := 11) (j := 20) (q' := 58) (rs := [none, none, some (some 44), some (some 45), some (some 46), some (some 47), none, some (some 48), some (some 49), some (some 50), none, some (some 51), some (some 52), some (some 53), some (some 54), some (some 55), none, some (some 56), none, some (some 57), some none, none, none, some none, some none, some none, none, some none, some none, none, none, some none, some none, none, none, none, some none, some none, some none, none, some none, some none, some none, some none, some none, none, none, some none, none, none, some none, some none, none, none]) (sh' := ShC126) (fieldAt_ok fa_11_57).1 (fun _ => ⟨rfl, rfl⟩) (fieldAt_ok fa_11_57).2.2.2 rfl rfl (by decide +kernel) dX11_init_126 rfl ?_
  refine wt_aload_n rfl dX11_init_129 ?_
  refine wt_iconst ⟨by decide, by decide⟩ dX11_init_130 ?_
  refine wt_putI (k := 43) (ci := 11) (j := 21) (rs := [none, none, some (some 44), some (some 45), some (some 46), some (some 47), none, some (some 48), some (some 49), some (some 50), none, some (some 51), some (some 52), some (some 53), some (some 54), some (some 55), none, some (some 56), none, some (some 57), some (some 58), none, none, some none, some none, some none, none, some none, some none, none, none, some none, some none, none, none, none, some none, some none, some none, none, some none, some none, some none, some none, some none, none, none, some none, none, none, some none, some none, none, none]) (fieldAt_ok fa_11_60).1 ((fieldAt_ok fa_11_60).2.1 rfl) (fieldAt_ok fa_11_60).2.2.2 (by decide +kernel) rfl dX11_init_131 ?_
  refine wt_aload_n rfl dX11_init_134 ?_
  refine wt_bipush (by decide) (by decide) dX11_init_135 ?_
  refine wt_newIn (n := 59) (N := 10) (sh' := ShC127) rfl rfl (by decide) (fun j => (Zr.up (Zr.le (Zr.le (Zr.le (Zr.le (Zr.le (Zr.le (Zr.le (Zr.le (Zr.le (Zr.le (Zr.le (Zr.le (Zr.le (Zr.le (Zr.le hz (show 44 ≤ 45 by decide)) (show 45 ≤ 46 by decide)) (show 46 ≤ 47 by decide)) (show 47 ≤ 48 by decide)) (show 48 ≤ 49 by decide)) (show 49 ≤ 50 by decide)) (show 50 ≤ 51 by decide)) (show 51 ≤ 52 by decide)) (show 52 ≤ 53 by decide)) (show 53 ≤ 54 by decide)) (show 54 ≤ 55 by decide)) (show 55 ≤ 56 by decide)) (show 56 ≤ 57 by decide)) (show 57 ≤ 58 by decide)) (show 58 ≤ 59 by decide)) (show 43 < 59 by decide)) 59 (Nat.le_refl _) (by decide) j) (by decide) (by decide) (by decide) dX11_init_137 rfl ?_
  refine wt_putR (k := 43) (ci := 11) (j := 23) (q' := 59) (rs := [none, none, some (some 44), some (some 45), some (some 46), some (some 47), none, some (some 48), some (some 49), some (some 50), none, some (some 51), some (some 52), some (some 53), some (some 54), some (some 55), none, some (some 56), none, some (some 57), some (some 58), none, none, some none, some none, some none, none, some none, some none, none, none, some none, some none, none, none, none, some none, some none, some none, none, some none, some none, some none, some none, some none, none, none, some none, none, none, some none, some none, none, none]) (sh' := ShC128) (fieldAt_ok fa_11_63).1 (fun _ => ⟨rfl, rfl⟩) (fieldAt_ok fa_11_63).2.2.2 rfl rfl (by decide +kernel) dX11_init_139 rfl ?_
  refine wt_aload_n rfl dX11_init_142 ?_
  refine wt_bipush (by decide) (by decide) dX11_init_143 ?_
  refine wt_newIn (n := 60) (N := 10) (sh' := ShC129) rfl rfl (by decide) (fun j => (Zr.le (Zr.up (Zr.le (Zr.le (Zr.le (Zr.le (Zr.le (Zr.le (Zr.le (Zr.le (Zr.le (Zr.le (Zr.le (Zr.le (Zr.le (Zr.le (Zr.le hz (show 44 ≤ 45 by decide)) (show 45 ≤ 46 by decide)) (show 46 ≤ 47 by decide)) (show 47 ≤ 48 by decide)) (show 48 ≤ 49 by decide)) (show 49 ≤ 50 by decide)) (show 50 ≤ 51 by decide)) (show 51 ≤ 52 by decide)) (show 52 ≤ 53 by decide)) (show 53 ≤ 54 by decide)) (show 54 ≤ 55 by decide)) (show 55 ≤ 56 by decide)) (show 56 ≤ 57 by decide)) (show 57 ≤ 58 by decide)) (show 58 ≤ 59 by decide)) (show 43 < 59 by decide)) (show 59 ≤ 60 by decide)) 60 (Nat.le_refl _) (by decide) j) (by decide) (by decide) (by decide) dX11_init_145 rfl ?_
  refine wt_putR (k := 43) (ci := 11) (j := 24) (q' := 60) (rs := [none, none, some (some 44), some (some 45), some (some 46), some (some 47), none, some (some 48), some (some 49), some (some 50), none, some (some 51), some (some 52), some (some 53), some (some 54), some (some 55), none, some (some 56), none, some (some 57), some (some 58), none, none, some (some 59), some none, some none, none, some none, some none, none, none, some none, some none, none, none, none, some none, some none, some none, none, some none, some none, some none, some none, some none, none, none, some none, none, none, some none, some none, none, none]) (sh' := ShC130) (fieldAt_ok fa_11_66).1 (fun _ => ⟨rfl, rfl⟩) (fieldAt_ok fa_11_66).2.2.2 rfl rfl (by decide +kernel) dX11_init_147 rfl ?_
  refine wt_aload_n rfl dX11_init_150 ?_
  refine wt_bipush (by decide) (by decide) dX11_init_151 ?_
  refine wt_newIn (n := 61) (N := 10) (sh' := ShC131) rfl rfl (by decide) (fun j => (Zr.le (Zr.le (Zr.up (Zr.le (Zr.le (Zr.le (Zr.le (Zr.le (Zr.le (Zr.le (Zr.le (Zr.le (Zr.le (Zr.le (Zr.le (Zr.le (Zr.le (Zr.le hz (show 44 ≤ 45 by decide)) (show 45 ≤ 46 by decide)) (show 46 ≤ 47 by decide)) (show 47 ≤ 48 by decide)) (show 48 ≤ 49 by decide)) (show 49 ≤ 50 by decide)) (show 50 ≤ 51 by decide)) (show 51 ≤ 52 by decide)) (show 52 ≤ 53 by decide)) (show 53 ≤ 54 by decide)) (show 54 ≤ 55 by decide)) (show 55 ≤ 56 by decide)) (show 56 ≤ 57 by decide)) (show 57 ≤ 58 by decide)) (show 58 ≤ 59 by decide)) (show 43 < 59 by decide)) (show 59 ≤ 60 by decide)) (show 60 ≤ 61 by decide)) 61 (Nat.le_refl _) (by decide) j) (by decide) (by decide) (by decide) dX11_init_153 rfl ?_
  refine wt_putR (k := 43) (ci := 11) (j := 25) (q' := 61) (rs := [none, none, some (some 44), some (some 45), some (some 46), some (some 47), none, some (some 48), some (some 49), some (some 50), none, some (some 51), some (some 52), some (some 53), some (some 54), some (some 55), none, some (some 56), none, some (some 57), some (some 58), none, none, some (some 59), some (some 60), some none, none, some none, some none, none, none, some none, some none, none, none, none, some none, some none, some none, none, some none, some none, some none, some none, some none, none, none, some none, none, none, some none, some none, none, none]) (sh' := ShC132) (fieldAt_ok fa_11_69).1 (fun _ => ⟨rfl, rfl⟩) (fieldAt_ok fa_11_69).2.2.2 rfl rfl (by decide +kernel) dX11_init_155 rfl ?_
  refine wt_aload_n rfl dX11_init_158 ?_
  refine wt_bipush (by decide) (by decide) dX11_init_159 ?_
  refine wt_newIn (n := 62) (N := 10) (sh' := ShC133) rfl rfl (by decide) (fun j => (Zr.le (Zr.le (Zr.le (Zr.up (Zr.le (Zr.le (Zr.le (Zr.le (Zr.le (Zr.le (Zr.le (Zr.le (Zr.le (Zr.le (Zr.le (Zr.le (Zr.le (Zr.le (Zr.le hz (show 44 ≤ 45 by decide)) (show 45 ≤ 46 by decide)) (show 46 ≤ 47 by decide)) (show 47 ≤ 48 by decide)) (show 48 ≤ 49 by decide)) (show 49 ≤ 50 by decide)) (show 50 ≤ 51 by decide)) (show 51 ≤ 52 by decide)) (show 52 ≤ 53 by decide)) (show 53 ≤ 54 by decide)) (show 54 ≤ 55 by decide)) (show 55 ≤ 56 by decide)) (show 56 ≤ 57 by decide)) (show 57 ≤ 58 by decide)) (show 58 ≤ 59 by decide)) (show 43 < 59 by decide)) (show 59 ≤ 60 by decide)) (show 60 ≤ 61 by decide)) (show 61 ≤ 62 by decide)) 62 (Nat.le_refl _) (by decide) j) (by decide) (by decide) (by decide) dX11_init_161 rfl ?_
  refine wt_putR (k := 43) (ci := 11) (j := 27) (q' := 62) (rs := [none, none, some (some 44), some (some 45), some (some 46), some (some 47), none, some (some 48), some (some 49), some (some 50), none, some (some 51), some (some 52), some (some 53), some (some 54), some (some 55), none, some (some 56), none, some (some 57), some (some 58), none, none, some (some 59), some (some 60), some (some 61), none, some none, some none, none, none, some none, some none, none, none, none, some none, some none, some none, none, some none, some none, some none, some none, some none, none, none, some none, none, none, some none, some none, none, none]) (sh' := ShC134) (fieldAt_ok fa_11_72).1 (fun _ => ⟨rfl, rfl⟩) (fieldAt_ok fa_11_72).2.2.2 rfl rfl (by decide +kernel) dX11_init_163 rfl ?_
  refine wt_aload_n rfl dX11_init_166 ?_
  refine wt_bipush (by decide) (by decide) dX11_init_167 ?_
  refine wt_newIn (n := 63) (N := 10) (sh' := ShC135) rfl rfl (by decide) (fun j => (Zr.le (Zr.le (Zr.le (Zr.le (Zr.up (Zr.le (Zr.le (Zr.le (Zr.le (Zr.le (Zr.le (Zr.le (Zr.le (Zr.le (Zr.le (Zr.le (Zr.le (Zr.le (Zr.le (Zr.le hz (show 44 ≤ 45 by decide)) (show 45 ≤ 46 by decide)) (show 46 ≤ 47 by decide)) (show 47 ≤ 48 by decide)) (show 48 ≤ 49 by decide)) (show 49 ≤ 50 by decide)) (show 50 ≤ 51 by decide)) (show 51 ≤ 52 by decide)) (show 52 ≤ 53 by decide)) (show 53 ≤ 54 by decide)) (show 54 ≤ 55 by decide)) (show 55 ≤ 56 by decide)) (show 56 ≤ 57 by decide)) (show 57 ≤ 58 by decide)) (show 58 ≤ 59 by decide)) (show 43 < 59 by decide)) (show 59 ≤ 60 by decide)) (show 60 ≤ 61 by decide)) (show 61 ≤ 62 by decide)) (show 62 ≤ 63 by decide)) 63 (Nat.le_refl _) (by decide) j) (by decide) (by decide) (by decide) dX11_init_169 rfl ?_
  refine wt_putR (k := 43) (ci := 11) (j := 28) (q' := 63) (rs := [none, none, some (some 44), some (some 45), some (some 46), some (some 47), none, some (some 48), some (some 49), some (some 50), none, some (some 51), some (some 52), some (some 53), some (some 54), some (some 55), none, some (some 56), none, some (some 57), some (some 58), none, none, some (some 59), some (some 60), some (some 61), none, some (some 62), some none, none, none, some none, some none, none, none, none, some none, some none, some none, none, some none, some none, some none, some none, some none, none, none, some none, none, none, some none, some none, none, none]) (sh' := ShC136) (fieldAt_ok fa_11_75).1 (fun _ => ⟨rfl, rfl⟩) (fieldAt_ok fa_11_75).2.2.2 rfl rfl (by decide +kernel) dX11_init_171 rfl ?_
  refine wt_aload_n rfl dX11_init_174 ?_
  refine wt_sipush (by decide) (by decide) dX11_init_175 ?_
  refine wt_newIn (n := 64) (N := 1053) (sh' := ShC137) rfl rfl (by decide) (fun j => (Zr.le (Zr.le (Zr.le (Zr.le (Zr.le (Zr.up (Zr.le (Zr.le (Zr.le (Zr.le (Zr.le (Zr.le (Zr.le (Zr.le (Zr.le (Zr.le (Zr.le (Zr.le (Zr.le (Zr.le (Zr.le hz (show 44 ≤ 45 by decide)) (show 45 ≤ 46 by decide)) (show 46 ≤ 47 by decide)) (show 47 ≤ 48 by decide)) (show 48 ≤ 49 by decide)) (show 49 ≤ 50 by decide)) (show 50 ≤ 51 by decide)) (show 51 ≤ 52 by decide)) (show 52 ≤ 53 by decide)) (show 53 ≤ 54 by decide)) (show 54 ≤ 55 by decide)) (show 55 ≤ 56 by decide)) (show 56 ≤ 57 by decide)) (show 57 ≤ 58 by decide)) (show 58 ≤ 59 by decide)) (show 43 < 59 by decide)) (show 59 ≤ 60 by decide)) (show 60 ≤ 61 by decide)) (show 61 ≤ 62 by decide)) (show 62 ≤ 63 by decide)) (show 63 ≤ 64 by decide)) 64 (Nat.le_refl _) (by decide) j) (by decide) (by decide) (by decide) dX11_init_178 rfl ?_
  refine wt_putR (k := 43) (ci := 11) (j := 31) (q' := 64) (rs := [none, none, some (some 44), some (some 45), some (some 46), some (some 47), none, some (some 48), some (some 49), some (some 50), none, some (some 51), some (some 52), some (some 53), some (some 54), some (some 55), none, some (some 56), none, some (some 57), some (some 58), none, none, some (some 59), some (some 60), some (some 61), none, some (some 62), some (some 63), none, none, some none, some none, none, none, none, some none, some none, some none, none, some none, some none, some none, some none, some none, none, none, some none, none, none, some none, some none, none, none]) (sh' := ShC138) (fieldAt_ok fa_11_78).1 (fun _ => ⟨rfl, rfl⟩) (fieldAt_ok fa_11_78).2.2.2 rfl rfl (by decide +kernel) dX11_init_180 rfl ?_
  refine wt_aload_n rfl dX11_init_183 ?_
  refine wt_sipush (by decide) (by decide) dX11_init_184 ?_
  refine wt_newIn (n := 65) (N := 1053) (sh' := ShC139) rfl rfl (by decide) (fun j => (Zr.le (Zr.le (Zr.le (Zr.le (Zr.le (Zr.le (Zr.up (Zr.le (Zr.le (Zr.le (Zr.le (Zr.le (Zr.le (Zr.le (Zr.le (Zr.le (Zr.le (Zr.le (Zr.le (Zr.le (Zr.le (Zr.le hz (show 44 ≤ 45 by decide)) (show 45 ≤ 46 by decide)) (show 46 ≤ 47 by decide)) (show 47 ≤ 48 by decide)) (show 48 ≤ 49 by decide)) (show 49 ≤ 50 by decide)) (show 50 ≤ 51 by decide)) (show 51 ≤ 52 by decide)) (show 52 ≤ 53 by decide)) (show 53 ≤ 54 by decide)) (show 54 ≤ 55 by decide)) (show 55 ≤ 56 by decide)) (show 56 ≤ 57 by decide)) (show 57 ≤ 58 by decide)) (show 58 ≤ 59 by decide)) (show 43 < 59 by decide)) (show 59 ≤ 60 by decide)) (show 60 ≤ 61 by decide)) (show 61 ≤ 62 by decide)) (show 62 ≤ 63 by decide)) (show 63 ≤ 64 by decide)) (show 64 ≤ 65 by decide)) 65 (Nat.le_refl _) (by decide) j) (by decide) (by decide) (by decide) dX11_init_187 rfl ?_
  refine wt_putR (k := 43) (ci := 11) (j := 32) (q' := 65) (rs := [none, none, some (some 44), some (some 45), some (some 46), some (some 47), none, some (some 48), some (some 49), some (some 50), none, some (some 51), some (some 52), some (some 53), some (some 54), some (some 55), none, some (some 56), none, some (some 57), some (some 58), none, none, some (some 59), some (some 60), some (some 61), none, some (some 62), some (some 63), none, none, some (some 64), some none, none, none, none, some none, some none, some none, none, some none, some none, some none, some none, some none, none, none, some none, none, none, some none, some none, none, none]) (sh' := ShC140) (fieldAt_ok fa_11_81).1 (fun _ => ⟨rfl, rfl⟩) (fieldAt_ok fa_11_81).2.2.2 rfl rfl (by decide +kernel) dX11_init_189 rfl ?_
  refine wt_aload_n rfl dX11_init_192 ?_
  refine wt_bipush (by decide) (by decide) dX11_init_193 ?_
  refine wt_newIn (n := 66) (N := 60) (sh' := ShC141) rfl rfl (by decide) (fun j => (Zr.le (Zr.le (Zr.le (Zr.le (Zr.le (Zr.le (Zr.le (Zr.up (Zr.le (Zr.le (Zr.le (Zr.le (Zr.le (Zr.le (Zr.le (Zr.le (Zr.le (Zr.le (Zr.le (Zr.le (Zr.le (Zr.le (Zr.le hz (show 44 ≤ 45 by decide)) (show 45 ≤ 46 by decide)) (show 46 ≤ 47 by decide)) (show 47 ≤ 48 by decide)) (show 48 ≤ 49 by decide)) (show 49 ≤ 50 by decide)) (show 50 ≤ 51 by decide)) (show 51 ≤ 52 by decide)) (show 52 ≤ 53 by decide)) (show 53 ≤ 54 by decide)) (show 54 ≤ 55 by decide)) (show 55 ≤ 56 by decide)) (show 56 ≤ 57 by decide)) (show 57 ≤ 58 by decide)) (show 58 ≤ 59 by decide)) (show 43 < 59 by decide)) (show 59 ≤ 60 by decide)) (show 60 ≤ 61 by decide)) (show 61 ≤ 62 by decide)) (show 62 ≤ 63 by decide)) (show 63 ≤ 64 by decide)) (show 64 ≤ 65 by decide)) (show 65 ≤ 66 by decide)) 66 (Nat.le_refl _) (by decide) j) (by decide) (by decide) (by decide) dX11_init_195 rfl ?_
  refine wt_putR (k := 43) (ci := 11) (j := 36) (q' := 66) (rs := [none, none, some (some 44), some (some 45), some (some 46), some (some 47), none, some (some 48), some (some 49), some (some 50), none, some (some 51), some (some 52), some (some 53), some (some 54), some (some 55), none, some (some 56), none, some (some 57), some (some 58), none, none, some (some 59), some (some 60), some (some 61), none, some (some 62), some (some 63), none, none, some (some 64), some (some 65), none, none, none, some none, some none, some none, none, some none, some none, some none, some none, some none, none, none, some none, none, none, some none, some none, none, none]) (sh' := ShC142) (fieldAt_ok fa_11_84).1 (fun _ => ⟨rfl, rfl⟩) (fieldAt_ok fa_11_84).2.2.2 rfl rfl (by decide +kernel) dX11_init_197 rfl ?_
  refine wt_aload_n rfl dX11_init_200 ?_
  refine wt_bipush (by decide) (by decide) dX11_init_201 ?_
  refine wt_newIn (n := 67) (N := 60) (sh' := ShC143) rfl rfl (by decide) (fun j => (Zr.le (Zr.le (Zr.le (Zr.le (Zr.le (Zr.le (Zr.le (Zr.le (Zr.up (Zr.le (Zr.le (Zr.le (Zr.le (Zr.le (Zr.le (Zr.le (Zr.le (Zr.le (Zr.le (Zr.le (Zr.le (Zr.le (Zr.le (Zr.le hz (show 44 ≤ 45 by decide)) (show 45 ≤ 46 by decide)) (show 46 ≤ 47 by decide)) (show 47 ≤ 48 by decide)) (show 48 ≤ 49 by decide)) (show 49 ≤ 50 by decide)) (show 50 ≤ 51 by decide)) (show 51 ≤ 52 by decide)) (show 52 ≤ 53 by decide)) (show 53 ≤ 54 by decide)) (show 54 ≤ 55 by decide)) (show 55 ≤ 56 by decide)) (show 56 ≤ 57 by decide)) (show 57 ≤ 58 by decide)) (show 58 ≤ 59 by decide)) (show 43 < 59 by decide)) (show 59 ≤ 60 by decide)) (show 60 ≤ 61 by decide)) (show 61 ≤ 62 by decide)) (show 62 ≤ 63 by decide)) (show 63 ≤ 64 by decide)) (show 64 ≤ 65 by decide)) (show 65 ≤ 66 by decide)) (show 66 ≤ 67 by decide)) 67 (Nat.le_refl _) (by decide) j) (by decide) (by decide) (by decide) dX11_init_203 rfl ?_
  refine wt_putR (k := 43) (ci := 11) (j := 37) (q' := 67) (rs := [none, none, some (some 44), some (some 45), some (some 46), some (some 47), none, some (some 48), some (some 49), some (some 50), none, some (some 51), some (some 52), some (some 53), some (some 54), some (some 55), none, some (some 56), none, some (some 57), some (some 58), none, none, some (some 59), some (some 60), some (some 61), none, some (some 62), some (some 63), none, none, some (some 64), some (some 65), none, none, none, some (some 66), some none, some none, none, some none, some none, some none, some none, some none, none, none, some none, none, none, some none, some none, none, none]) (sh' := ShC144) (fieldAt_ok fa_11_87).1 (fun _ => ⟨rfl, rfl⟩) (fieldAt_ok fa_11_87).2.2.2 rfl rfl (by decide +kernel) dX11_init_205 rfl ?_
  refine wt_aload_n rfl dX11_init_208 ?_
  refine wt_bipush (by decide) (by decide) dX11_init_209 ?_
  refine wt_newZn (n := 68) (N := 60) (sh' := ShC145) rfl rfl (by decide) (fun j => (Zr.le (Zr.le (Zr.le (Zr.le (Zr.le (Zr.le (Zr.le (Zr.le (Zr.le (Zr.up (Zr.le (Zr.le (Zr.le (Zr.le (Zr.le (Zr.le (Zr.le (Zr.le (Zr.le (Zr.le (Zr.le (Zr.le (Zr.le (Zr.le (Zr.le hz (show 44 ≤ 45 by decide)) (show 45 ≤ 46 by decide)) (show 46 ≤ 47 by decide)) (show 47 ≤ 48 by decide)) (show 48 ≤ 49 by decide)) (show 49 ≤ 50 by decide)) (show 50 ≤ 51 by decide)) (show 51 ≤ 52 by decide)) (show 52 ≤ 53 by decide)) (show 53 ≤ 54 by decide)) (show 54 ≤ 55 by decide)) (show 55 ≤ 56 by decide)) (show 56 ≤ 57 by decide)) (show 57 ≤ 58 by decide)) (show 58 ≤ 59 by decide)) (show 43 < 59 by decide)) (show 59 ≤ 60 by decide)) (show 60 ≤ 61 by decide)) (show 61 ≤ 62 by decide)) (show 62 ≤ 63 by decide)) (show 63 ≤ 64 by decide)) (show 64 ≤ 65 by decide)) (show 65 ≤ 66 by decide)) (show 66 ≤ 67 by decide)) (show 67 ≤ 68 by decide)) 68 (Nat.le_refl _) (by decide) j) (by decide) (by decide) (by decide) dX11_init_211 rfl ?_
  refine wt_putR (k := 43) (ci := 11) (j := 38) (q' := 68) (rs := [none, none, some (some 44), some (some 45), some (some 46), some (some 47), none, some (some 48), some (some 49), some (some 50), none, some (some 51), some (some 52), some (some 53), some (some 54), some (some 55), none, some (some 56), none, some (some 57), some (some 58), none, none, some (some 59), some (some 60), some (some 61), none, some (some 62), some (some 63), none, none, some (some 64), some (some 65), none, none, none, some (some 66), some (some 67), some none, none, some none, some none, some none, some none, some none, none, none, some none, none, none, some none, some none, none, none]) (sh' := ShC146) (fieldAt_ok fa_11_90).1 (fun _ => ⟨rfl, rfl⟩) (fieldAt_ok fa_11_90).2.2.2 rfl rfl (by decide +kernel) dX11_init_213 rfl ?_
  refine wt_aload_n rfl dX11_init_216 ?_
  refine wt_sipush (by decide) (by decide) dX11_init_217 ?_
  refine wt_newIn (n := 69) (N := 480) (sh' := ShC147) rfl rfl (by decide) (fun j => (Zr.le (Zr.le (Zr.le (Zr.le (Zr.le (Zr.le (Zr.le (Zr.le (Zr.le (Zr.le (Zr.up (Zr.le (Zr.le (Zr.le (Zr.le (Zr.le (Zr.le (Zr.le (Zr.le (Zr.le (Zr.le (Zr.le (Zr.le (Zr.le (Zr.le (Zr.le hz (show 44 ≤ 45 by decide)) (show 45 ≤ 46 by decide)) (show 46 ≤ 47 by decide)) (show 47 ≤ 48 by decide)) (show 48 ≤ 49 by decide)) (show 49 ≤ 50 by decide)) (show 50 ≤ 51 by decide)) (show 51 ≤ 52 by decide)) (show 52 ≤ 53 by decide)) (show 53 ≤ 54 by decide)) (show 54 ≤ 55 by decide)) (show 55 ≤ 56 by decide)) (show 56 ≤ 57 by decide)) (show 57 ≤ 58 by decide)) (show 58 ≤ 59 by decide)) (show 43 < 59 by decide)) (show 59 ≤ 60 by decide)) (show 60 ≤ 61 by decide)) (show 61 ≤ 62 by decide)) (show 62 ≤ 63 by decide)) (show 63 ≤ 64 by decide)) (show 64 ≤ 65 by decide)) (show 65 ≤ 66 by decide)) (show 66 ≤ 67 by decide)) (show 67 ≤ 68 by decide)) (show 68 ≤ 69 by decide)) 69 (Nat.le_refl _) (by decide) j) (by decide) (by decide) (by decide) dX11_init_220 rfl ?_
  refine wt_putR (k := 43) (ci := 11) (j := 40) (q' := 69) (rs := [none, none, some (some 44), some (some 45), some (some 46), some (some 47), none, some (some 48), some (some 49), some (some 50), none, some (some 51), some (some 52), some (some 53), some (some 54), some (some 55), none, some (some 56), none, some (some 57), some (some 58), none, none, some (some 59), some (some 60), some (some 61), none, some (some 62), some (some 63), none, none, some (some 64), some (some 65), none, none, none, some (some 66), some (some 67), some (some 68), none, some none, some none, some none, some none, some none, none, none, some none, none, none, some none, some none, none, none]) (sh' := ShC148) (fieldAt_ok fa_11_93).1 (fun _ => ⟨rfl, rfl⟩) (fieldAt_ok fa_11_93).2.2.2 rfl rfl (by decide +kernel) dX11_init_222 rfl ?_
  refine wt_aload_n rfl dX11_init_225 ?_
  refine wt_bipush (by decide) (by decide) dX11_init_226 ?_
  refine wt_newIn (n := 70) (N := 40) (sh' := ShC149) rfl rfl (by decide) (fun j => (Zr.le (Zr.le (Zr.le (Zr.le (Zr.le (Zr.le (Zr.le (Zr.le (Zr.le (Zr.le (Zr.le (Zr.up (Zr.le (Zr.le (Zr.le (Zr.le (Zr.le (Zr.le (Zr.le (Zr.le (Zr.le (Zr.le (Zr.le (Zr.le (Zr.le (Zr.le (Zr.le hz (show 44 ≤ 45 by decide)) (show 45 ≤ 46 by decide)) (show 46 ≤ 47 by decide)) (show 47 ≤ 48 by decide)) (show 48 ≤ 49 by decide)) (show 49 ≤ 50 by decide)) (show 50 ≤ 51 by decide)) (show 51 ≤ 52 by decide)) (show 52 ≤ 53 by decide)) (show 53 ≤ 54 by decide)) (show 54 ≤ 55 by decide)) (show 55 ≤ 56 by decide)) (show 56 ≤ 57 by decide)) (show 57 ≤ 58 by decide)) (show 58 ≤ 59 by decide)) (show 43 < 59 by decide)) (show 59 ≤ 60 by decide)) (show 60 ≤ 61 by decide)) (show 61 ≤ 62 by decide)) (show 62 ≤ 63 by decide)) (show 63 ≤ 64 by decide)) (show 64 ≤ 65 by decide)) (show 65 ≤ 66 by decide)) (show 66 ≤ 67 by decide)) (show 67 ≤ 68 by decide)) (show 68 ≤ 69 by decide)) (show 69 ≤ 70 by decide)) 70 (Nat.le_refl _) (by decide) j) (by decide) (by decide) (by decide) dX11_init_228 rfl ?_
  refine wt_putR (k := 43) (ci := 11) (j := 41) (q' := 70) (rs := [none, none, some (some 44), some (some 45), some (some 46), some (some 47), none, some (some 48), some (some 49), some (some 50), none, some (some 51), some (some 52), some (some 53), some (some 54), some (some 55), none, some (some 56), none, some (some 57), some (some 58), none, none, some (some 59), some (some 60), some (some 61), none, some (some 62), some (some 63), none, none, some (some 64), some (some 65), none, none, none, some (some 66), some (some 67), some (some 68), none, some (some 69), some none, some none, some none, some none, none, none, some none, none, none, some none, some none, none, none]) (sh' := ShC150) (fieldAt_ok fa_11_96).1 (fun _ => ⟨rfl, rfl⟩) (fieldAt_ok fa_11_96).2.2.2 rfl rfl (by decide +kernel) dX11_init_230 rfl ?_
  refine wt_aload_n rfl dX11_init_233 ?_
  refine wt_bipush (by decide) (by decide) dX11_init_234 ?_
  refine wt_newIn (n := 71) (N := 40) (sh' := ShC151) rfl rfl (by decide) (fun j => (Zr.le (Zr.le (Zr.le (Zr.le (Zr.le (Zr.le (Zr.le (Zr.le (Zr.le (Zr.le (Zr.le (Zr.le (Zr.up (Zr.le (Zr.le (Zr.le (Zr.le (Zr.le (Zr.le (Zr.le (Zr.le (Zr.le (Zr.le (Zr.le (Zr.le (Zr.le (Zr.le (Zr.le hz (show 44 ≤ 45 by decide)) (show 45 ≤ 46 by decide)) (show 46 ≤ 47 by decide)) (show 47 ≤ 48 by decide)) (show 48 ≤ 49 by decide)) (show 49 ≤ 50 by decide)) (show 50 ≤ 51 by decide)) (show 51 ≤ 52 by decide)) (show 52 ≤ 53 by decide)) (show 53 ≤ 54 by decide)) (show 54 ≤ 55 by decide)) (show 55 ≤ 56 by decide)) (show 56 ≤ 57 by decide)) (show 57 ≤ 58 by decide)) (show 58 ≤ 59 by decide)) (show 43 < 59 by decide)) (show 59 ≤ 60 by decide)) (show 60 ≤ 61 by decide)) (show 61 ≤ 62 by decide)) (show 62 ≤ 63 by decide)) (show 63 ≤ 64 by decide)) (show 64 ≤ 65 by decide)) (show 65 ≤ 66 by decide)) (show 66 ≤ 67 by decide)) (show 67 ≤ 68 by decide)) (show 68 ≤ 69 by decide)) (show 69 ≤ 70 by decide)) (show 70 ≤ 71 by decide)) 71 (Nat.le_refl _) (by decide) j) (by decide) (by decide) (by decide) dX11_init_236 rfl ?_
  refine wt_putR (k := 43) (ci := 11) (j := 42) (q' := 71) (rs := [none, none, some (some 44), some (some 45), some (some 46), some (some 47), none, some (some 48), some (some 49), some (some 50), none, some (some 51), some (some 52), some (some 53), some (some 54), some (some 55), none, some (some 56), none, some (some 57), some (some 58), none, none, some (some 59), some (some 60), some (some 61), none, some (some 62), some (some 63), none, none, some (some 64), some (some 65), none, none, none, some (some 66), some (some 67), some (some 68), none, some (some 69), some (some 70), some none, some none, some none, none, none, some none, none, none, some none, some none, none, none]) (sh' := ShC152) (fieldAt_ok fa_11_99).1 (fun _ => ⟨rfl, rfl⟩) (fieldAt_ok fa_11_99).2.2.2 rfl rfl (by decide +kernel) dX11_init_238 rfl ?_
  refine wt_aload_n rfl dX11_init_241 ?_
  refine wt_bipush (by decide) (by decide) dX11_init_242 ?_
  refine wt_newIn (n := 72) (N := 40) (sh' := ShC153) rfl rfl (by decide) (fun j => (Zr.le (Zr.le (Zr.le (Zr.le (Zr.le (Zr.le (Zr.le (Zr.le (Zr.le (Zr.le (Zr.le (Zr.le (Zr.le (Zr.up (Zr.le (Zr.le (Zr.le (Zr.le (Zr.le (Zr.le (Zr.le (Zr.le (Zr.le (Zr.le (Zr.le (Zr.le (Zr.le (Zr.le (Zr.le hz (show 44 ≤ 45 by decide)) (show 45 ≤ 46 by decide)) (show 46 ≤ 47 by decide)) (show 47 ≤ 48 by decide)) (show 48 ≤ 49 by decide)) (show 49 ≤ 50 by decide)) (show 50 ≤ 51 by decide)) (show 51 ≤ 52 by decide)) (show 52 ≤ 53 by decide)) (show 53 ≤ 54 by decide)) (show 54 ≤ 55 by decide)) (show 55 ≤ 56 by decide)) (show 56 ≤ 57 by decide)) (show 57 ≤ 58 by decide)) (show 58 ≤ 59 by decide)) (show 43 < 59 by decide)) (show 59 ≤ 60 by decide)) (show 60 ≤ 61 by decide)) (show 61 ≤ 62 by decide)) (show 62 ≤ 63 by decide)) (show 63 ≤ 64 by decide)) (show 64 ≤ 65 by decide)) (show 65 ≤ 66 by decide)) (show 66 ≤ 67 by decide)) (show 67 ≤ 68 by decide)) (show 68 ≤ 69 by decide)) (show 69 ≤ 70 by decide)) (show 70 ≤ 71 by decide)) (show 71 ≤ 72 by decide)) 72 (Nat.le_refl _) (by decide) j) (by decide) (by decide) (by decide) dX11_init_244 rfl ?_
  refine wt_putR (k := 43) (ci := 11) (j := 43) (q' := 72) (rs := [none, none, some (some 44), some (some 45), some (some 46), some (some 47), none, some (some 48), some (some 49), some (some 50), none, some (some 51), some (some 52), some (some 53), some (some 54), some (some 55), none, some (some 56), none, some (some 57), some (some 58), none, none, some (some 59), some (some 60), some (some 61), none, some (some 62), some (some 63), none, none, some (some 64), some (some 65), none, none, none, some (some 66), some (some 67), some (some 68), none, some (some 69), some (some 70), some (some 71), some none, some none, none, none, some none, none, none, some none, some none, none, none]) (sh' := ShC154) (fieldAt_ok fa_11_102).1 (fun _ => ⟨rfl, rfl⟩) (fieldAt_ok fa_11_102).2.2.2 rfl rfl (by decide +kernel) dX11_init_246 rfl ?_
  refine wt_aload_n rfl dX11_init_249 ?_
  refine wt_bipush (by decide) (by decide) dX11_init_250 ?_
  refine wt_newIn (n := 73) (N := 60) (sh' := ShC155) rfl rfl (by decide) (fun j => (Zr.le (Zr.le (Zr.le (Zr.le (Zr.le (Zr.le (Zr.le (Zr.le (Zr.le (Zr.le (Zr.le (Zr.le (Zr.le (Zr.le (Zr.up (Zr.le (Zr.le (Zr.le (Zr.le (Zr.le (Zr.le (Zr.le (Zr.le (Zr.le (Zr.le (Zr.le (Zr.le (Zr.le (Zr.le (Zr.le hz (show 44 ≤ 45 by decide)) (show 45 ≤ 46 by decide)) (show 46 ≤ 47 by decide)) (show 47 ≤ 48 by decide)) (show 48 ≤ 49 by decide)) (show 49 ≤ 50 by decide)) (show 50 ≤ 51 by decide)) (show 51 ≤ 52 by decide)) (show 52 ≤ 53 by decide)) (show 53 ≤ 54 by decide)) (show 54 ≤ 55 by decide)) (show 55 ≤ 56 by decide)) (show 56 ≤ 57 by decide)) (show 57 ≤ 58 by decide)) (show 58 ≤ 59 by decide)) (show 43 < 59 by decide)) (show 59 ≤ 60 by decide)) (show 60 ≤ 61 by decide)) (show 61 ≤ 62 by decide)) (show 62 ≤ 63 by decide)) (show 63 ≤ 64 by decide)) (show 64 ≤ 65 by decide)) (show 65 ≤ 66 by decide)) (show 66 ≤ 67 by decide)) (show 67 ≤ 68 by decide)) (show 68 ≤ 69 by decide)) (show 69 ≤ 70 by decide)) (show 70 ≤ 71 by decide)) (show 71 ≤ 72 by decide)) (show 72 ≤ 73 by decide)) 73 (Nat.le_refl _) (by decide) j) (by decide) (by decide) (by decide) dX11_init_252 rfl ?_
  refine wt_putR (k := 43) (ci := 11) (j := 44) (q' := 73) (rs := [none, none, some (some 44), some (some 45), some (some 46), some (some 47), none, some (some 48), some (some 49), some (some 50), none, some (some 51), some (some 52), some (some 53), some (some 54), some (some 55), none, some (some 56), none, some (some 57), some (some 58), none, none, some (some 59), some (some 60), some (some 61), none, some (some 62), some (some 63), none, none, some (some 64), some (some 65), none, none, none, some (some 66), some (some 67), some (some 68), none, some (some 69), some (some 70), some (some 71), some (some 72), some none, none, none, some none, none, none, some none, some none, none, none]) (sh' := ShC156) (fieldAt_ok fa_11_105).1 (fun _ => ⟨rfl, rfl⟩) (fieldAt_ok fa_11_105).2.2.2 rfl rfl (by decide +kernel) dX11_init_254 rfl ?_
  refine wt_aload_n rfl dX11_init_257 ?_
  refine wt_iconst ⟨by decide, by decide⟩ dX11_init_258 ?_
  refine wt_newIn (n := 74) (N := 4) (sh' := ShC157) rfl rfl (by decide) (fun j => (Zr.le (Zr.le (Zr.le (Zr.le (Zr.le (Zr.le (Zr.le (Zr.le (Zr.le (Zr.le (Zr.le (Zr.le (Zr.le (Zr.le (Zr.le (Zr.up (Zr.le (Zr.le (Zr.le (Zr.le (Zr.le (Zr.le (Zr.le (Zr.le (Zr.le (Zr.le (Zr.le (Zr.le (Zr.le (Zr.le (Zr.le hz (show 44 ≤ 45 by decide)) (show 45 ≤ 46 by decide)) (show 46 ≤ 47 by decide)) (show 47 ≤ 48 by decide)) (show 48 ≤ 49 by decide)) (show 49 ≤ 50 by decide)) (show 50 ≤ 51 by decide)) (show 51 ≤ 52 by decide)) (show 52 ≤ 53 by decide)) (show 53 ≤ 54 by decide)) (show 54 ≤ 55 by decide)) (show 55 ≤ 56 by decide)) (show 56 ≤ 57 by decide)) (show 57 ≤ 58 by decide)) (show 58 ≤ 59 by decide)) (show 43 < 59 by decide)) (show 59 ≤ 60 by decide)) (show 60 ≤ 61 by decide)) (show 61 ≤ 62 by decide)) (show 62 ≤ 63 by decide)) (show 63 ≤ 64 by decide)) (show 64 ≤ 65 by decide)) (show 65 ≤ 66 by decide)) (show 66 ≤ 67 by decide)) (show 67 ≤ 68 by decide)) (show 68 ≤ 69 by decide)) (show 69 ≤ 70 by decide)) (show 70 ≤ 71 by decide)) (show 71 ≤ 72 by decide)) (show 72 ≤ 73 by decide)) (show 73 ≤ 74 by decide)) 74 (Nat.le_refl _) (by decide) j) (by decide) (by decide) (by decide) dX11_init_259 rfl ?_
  refine wt_putR (k := 43) (ci := 11) (j := 47) (q' := 74) (rs := [none, none, some (some 44), some (some 45), some (some 46), some (some 47), none, some (some 48), some (some 49), some (some 50), none, some (some 51), some (some 52), some (some 53), some (some 54), some (some 55), none, some (some 56), none, some (some 57), some (some 58), none, none, some (some 59), some (some 60), some (some 61), none, some (some 62), some (some 63), none, none, some (some 64), some (some 65), none, none, none, some (some 66), some (some 67), some (some 68), none, some (some 69), some (some 70), some (some 71), some (some 72), some (some 73), none, none, some none, none, none, some none, some none, none, none]) (sh' := ShC158) (fieldAt_ok fa_11_108).1 (fun _ => ⟨rfl, rfl⟩) (fieldAt_ok fa_11_108).2.2.2 rfl rfl (by decide +kernel) dX11_init_261 rfl ?_
  refine wt_aload_n rfl dX11_init_264 ?_
  refine wt_bipush (by decide) (by decide) dX11_init_265 ?_
  refine wt_newIn (n := 75) (N := 60) (sh' := ShC159) rfl rfl (by decide) (fun j => (Zr.le (Zr.le (Zr.le (Zr.le (Zr.le (Zr.le (Zr.le (Zr.le (Zr.le (Zr.le (Zr.le (Zr.le (Zr.le (Zr.le (Zr.le (Zr.le (Zr.up (Zr.le (Zr.le (Zr.le (Zr.le (Zr.le (Zr.le (Zr.le (Zr.le (Zr.le (Zr.le (Zr.le (Zr.le (Zr.le (Zr.le (Zr.le hz (show 44 ≤ 45 by decide)) (show 45 ≤ 46 by decide)) (show 46 ≤ 47 by decide)) (show 47 ≤ 48 by decide)) (show 48 ≤ 49 by decide)) (show 49 ≤ 50 by decide)) (show 50 ≤ 51 by decide)) (show 51 ≤ 52 by decide)) (show 52 ≤ 53 by decide)) (show 53 ≤ 54 by decide)) (show 54 ≤ 55 by decide)) (show 55 ≤ 56 by decide)) (show 56 ≤ 57 by decide)) (show 57 ≤ 58 by decide)) (show 58 ≤ 59 by decide)) (show 43 < 59 by decide)) (show 59 ≤ 60 by decide)) (show 60 ≤ 61 by decide)) (show 61 ≤ 62 by decide)) (show 62 ≤ 63 by decide)) (show 63 ≤ 64 by decide)) (show 64 ≤ 65 by decide)) (show 65 ≤ 66 by decide)) (show 66 ≤ 67 by decide)) (show 67 ≤ 68 by decide)) (show 68 ≤ 69 by decide)) (show 69 ≤ 70 by decide)) (show 70 ≤ 71 by decide)) (show 71 ≤ 72 by decide)) (show 72 ≤ 73 by decide)) (show 73 ≤ 74 by decide)) (show 74 ≤ 75 by decide)) 75 (Nat.le_refl _) (by decide) j) (by decide) (by decide) (by decide) dX11_init_267 rfl ?_
  refine wt_putR (k := 43) (ci := 11) (j := 50) (q' := 75) (rs := [none, none, some (some 44), some (some 45), some (some 46), some (some 47), none, some (some 48), some (some 49), some (some 50), none, some (some 51), some (some 52), some (some 53), some (some 54), some (some 55), none, some (some 56), none, some (some 57), some (some 58), none, none, some (some 59), some (some 60), some (some 61), none, some (some 62), some (some 63), none, none, some (some 64), some (some 65), none, none, none, some (some 66), some (some 67), some (some 68), none, some (some 69), some (some 70), some (some 71), some (some 72), some (some 73), none, none, some (some 74), none, none, some none, some none, none, none]) (sh' := ShC160) (fieldAt_ok fa_11_111).1 (fun _ => ⟨rfl, rfl⟩) (fieldAt_ok fa_11_111).2.2.2 rfl rfl (by decide +kernel) dX11_init_269 rfl ?_
  refine wt_aload_n rfl dX11_init_272 ?_
  refine wt_sipush (by decide) (by decide) dX11_init_273 ?_
  refine wt_newIn (n := 76) (N := 1053) (sh' := ShC161) rfl rfl (by decide) (fun j => (Zr.le (Zr.le (Zr.le (Zr.le (Zr.le (Zr.le (Zr.le (Zr.le (Zr.le (Zr.le (Zr.le (Zr.le (Zr.le (Zr.le (Zr.le (Zr.le (Zr.le (Zr.up (Zr.le (Zr.le (Zr.le (Zr.le (Zr.le (Zr.le (Zr.le (Zr.le (Zr.le (Zr.le (Zr.le (Zr.le (Zr.le (Zr.le (Zr.le hz (show 44 ≤ 45 by decide)) (show 45 ≤ 46 by decide)) (show 46 ≤ 47 by decide)) (show 47 ≤ 48 by decide)) (show 48 ≤ 49 by decide)) (show 49 ≤ 50 by decide)) (show 50 ≤ 51 by decide)) (show 51 ≤ 52 by decide)) (show 52 ≤ 53 by decide)) (show 53 ≤ 54 by decide)) (show 54 ≤ 55 by decide)) (show 55 ≤ 56 by decide)) (show 56 ≤ 57 by decide)) (show 57 ≤ 58 by decide)) (show 58 ≤ 59 by decide)) (show 43 < 59 by decide)) (show 59 ≤ 60 by decide)) (show 60 ≤ 61 by decide)) (show 61 ≤ 62 by decide)) (show 62 ≤ 63 by decide)) (show 63 ≤ 64 by decide)) (show 64 ≤ 65 by decide)) (show 65 ≤ 66 by decide)) (show 66 ≤ 67 by decide)) (show 67 ≤ 68 by decide)) (show 68 ≤ 69 by decide)) (show 69 ≤ 70 by decide)) (show 70 ≤ 71 by decide)) (show 71 ≤ 72 by decide)) (show 72 ≤ 73 by decide)) (show 73 ≤ 74 by decide)) (show 74 ≤ 75 by decide)) (show 75 ≤ 76 by decide)) 76 (Nat.le_refl _) (by decide) j) (by decide) (by decide) (by decide) dX11_init_276 rfl ?_
  refine wt_putR (k := 43) (ci := 11) (j := 51) (q' := 76) (rs := [none, none, some (some 44), some (some 45), some (some 46), some (some 47), none, some (some 48), some (some 49), some (some 50), none, some (some 51), some (some 52), some (some 53), some (some 54), some (some 55), none, some (some 56), none, some (some 57), some (some 58), none, none, some (some 59), some (some 60), some (some 61), none, some (some 62), some (some 63), none, none, some (some 64), some (some 65), none, none, none, some (some 66), some (some 67), some (some 68), none, some (some 69), some (some 70), some (some 71), some (some 72), some (some 73), none, none, some (some 74), none, none, some (some 75), some none, none, none]) (sh' := ShC162) (fieldAt_ok fa_11_114).1 (fun _ => ⟨rfl, rfl⟩) (fieldAt_ok fa_11_114).2.2.2 rfl rfl (by decide +kernel) dX11_init_278 rfl ?_
  refine wt_aload_n rfl dX11_init_281 ?_
  refine wt_iconst ⟨by decide, by decide⟩ dX11_init_282 ?_
  refine wt_putI (k := 43) (ci := 11) (j := 52) (rs := [none, none, some (some 44), some (some 45), some (some 46), some (some 47), none, some (some 48), some (some 49), some (some 50), none, some (some 51), some (some 52), some (some 53), some (some 54), some (some 55), none, some (some 56), none, some (some 57), some (some 58), none, none, some (some 59), some (some 60), some (some 61), none, some (some 62), some (some 63), none, none, some (some 64), some (some 65), none, none, none, some (some 66), some (some 67), some (some 68), none, some (some 69), some (some 70), some (some 71), some (some 72), some (some 73), none, none, some (some 74), none, none, some (some 75), some (some 76), none, none]) (fieldAt_ok fa_11_117).1 ((fieldAt_ok fa_11_117).2.1 rfl) (fieldAt_ok fa_11_117).2.2.2 (by decide +kernel) rfl dX11_init_283 ?_
  refine wt_iconst ⟨by decide, by decide⟩ dX11_init_286 ?_
  refine wt_istore_n (i := 1) (by decide) trivial dX11_init_287 ?_
  refine wt_iload_n rfl dX11_init_288 ?_
  refine wt_bipush (by decide) (by decide) dX11_init_289 ?_
  refine wt_icmp (tgt := 351) rfl dX11_init_291 (fun z => absurd (show (9 : Int) ≤ 0 from z) (by decide)) (fun _ => ?_)
  refine wt_aload_n rfl dX11_init_294 ?_
  refine wt_getR (k := 43) (ci := 11) (j := 14) (q := 54) (rs := [none, none, some (some 44), some (some 45), some (some 46), some (some 47), none, some (some 48), some (some 49), some (some 50), none, some (some 51), some (some 52), some (some 53), some (some 54), some (some 55), none, some (some 56), none, some (some 57), some (some 58), none, none, some (some 59), some (some 60), some (some 61), none, some (some 62), some (some 63), none, none, some (some 64), some (some 65), none, none, none, some (some 66), some (some 67), some (some 68), none, some (some 69), some (some 70), some (some 71), some (some 72), some (some 73), none, none, some (some 74), none, none, some (some 75), some (some 76), none, none]) (fieldAt_ok fa_11_45).1 (by decide +kernel) rfl dX11_init_295 ?_
  refine wt_iload_n rfl dX11_init_298 ?_
  refine wt_iload_n rfl dX11_init_299 ?_
  refine wt_iconst ⟨by decide, by decide⟩ dX11_init_300 ?_
  refine wt_icmp (tgt := 310) rfl dX11_init_301 (fun z => absurd (show (0 : Int) = 2 from z) (by decide)) (fun _ => ?_)
  refine wt_iload_n rfl dX11_init_304 ?_
  refine wt_bipush (by decide) (by decide) dX11_init_305 ?_
  refine wt_icmp (tgt := 314) rfl dX11_init_307 (fun _ => ?_) (fun z => absurd (show ¬ (0 : Int) = 8 by decide) z)
  refine wt_iload_n rfl dX11_init_314 ?_
  refine wt_iconst ⟨by decide, by decide⟩ dX11_init_315 ?_
  refine wt_icmp (tgt := 323) rfl dX11_init_316 (fun _ => ?_) (fun z => absurd (show ¬ (0 : Int) = 5 by decide) z)
  refine wt_iload_n rfl dX11_init_323 ?_
  refine wt_bipush (by decide) (by decide) dX11_init_324 ?_
  refine wt_icmp (tgt := 333) rfl dX11_init_326 (fun _ => ?_) (fun z => absurd (show ¬ (0 : Int) = 6 by decide) z)
  refine wt_iload_n rfl dX11_init_333 ?_
  refine wt_bipush (by decide) (by decide) dX11_init_334 ?_
  refine wt_icmp (tgt := 343) rfl dX11_init_336 (fun _ => ?_) (fun z => absurd (show ¬ (0 : Int) = 7 by decide) z)
  refine wt_iconst ⟨by decide, by decide⟩ dX11_init_343 ?_
  refine wt_iastore (k := 54) (n := 9) (by decide +kernel) (by decide) (by decide) dX11_init_344 ?_
  rw [show ((0 : Int)).toNat = 0 from rfl]
  refine wt_iinc (i := 1) rfl (by decide) trivial dX11_init_345 ?_
  rw [show wr (0 + 1) = 1 from wr_id (by decide) (by decide)]
  show Wt _ _ _ _ _ _ [some (.inr (.inr 43)), some (.inl 1)] _ _ _ _
  refine wt_goto (tgt := 288) rfl dX11_init_348 ?_
  refine wt_iload_n rfl dX11_init_288 ?_
  refine wt_bipush (by decide) (by decide) dX11_init_289 ?_
  refine wt_icmp (tgt := 351) rfl dX11_init_291 (fun z => absurd (show (9 : Int) ≤ 1 from z) (by decide)) (fun _ => ?_)
  refine wt_aload_n rfl dX11_init_294 ?_
  refine wt_getR (k := 43) (ci := 11) (j := 14) (q := 54) (rs := [none, none, some (some 44), some (some 45), some (some 46), some (some 47), none, some (some 48), some (some 49), some (some 50), none, some (some 51), some (some 52), some (some 53), some (some 54), some (some 55), none, some (some 56), none, some (some 57), some (some 58), none, none, some (some 59), some (some 60), some (some 61), none, some (some 62), some (some 63), none, none, some (some 64), some (some 65), none, none, none, some (some 66), some (some 67), some (some 68), none, some (some 69), some (some 70), some (some 71), some (some 72), some (some 73), none, none, some (some 74), none, none, some (some 75), some (some 76), none, none]) (fieldAt_ok fa_11_45).1 (by decide +kernel) rfl dX11_init_295 ?_
  refine wt_iload_n rfl dX11_init_298 ?_
  refine wt_iload_n rfl dX11_init_299 ?_
  refine wt_iconst ⟨by decide, by decide⟩ dX11_init_300 ?_
  refine wt_icmp (tgt := 310) rfl dX11_init_301 (fun z => absurd (show (1 : Int) = 2 from z) (by decide)) (fun _ => ?_)
  refine wt_iload_n rfl dX11_init_304 ?_
  refine wt_bipush (by decide) (by decide) dX11_init_305 ?_
  refine wt_icmp (tgt := 314) rfl dX11_init_307 (fun _ => ?_) (fun z => absurd (show ¬ (1 : Int) = 8 by decide) z)
  refine wt_iload_n rfl dX11_init_314 ?_
  refine wt_iconst ⟨by decide, by decide⟩ dX11_init_315 ?_
  refine wt_icmp (tgt := 323) rfl dX11_init_316 (fun _ => ?_) (fun z => absurd (show ¬ (1 : Int) = 5 by decide) z)
  refine wt_iload_n rfl dX11_init_323 ?_
  refine wt_bipush (by decide) (by decide) dX11_init_324 ?_
  refine wt_icmp (tgt := 333) rfl dX11_init_326 (fun _ => ?_) (fun z => absurd (show ¬ (1 : Int) = 6 by decide) z)
  refine wt_iload_n rfl dX11_init_333 ?_
  refine wt_bipush (by decide) (by decide) dX11_init_334 ?_
  refine wt_icmp (tgt := 343) rfl dX11_init_336 (fun _ => ?_) (fun z => absurd (show ¬ (1 : Int) = 7 by decide) z)
  refine wt_iconst ⟨by decide, by decide⟩ dX11_init_343 ?_
  refine wt_iastore (k := 54) (n := 9) (by decide +kernel) (by decide) (by decide) dX11_init_344 ?_
  rw [show ((1 : Int)).toNat = 1 from rfl]
  refine wt_iinc (i := 1) rfl (by decide) trivial dX11_init_345 ?_
  rw [show wr (1 + 1) = 2 from wr_id (by decide) (by decide)]
  show Wt _ _ _ _ _ _ [some (.inr (.inr 43)), some (.inl 2)] _ _ _ _
  refine wt_goto (tgt := 288) rfl dX11_init_348 ?_
  refine wt_iload_n rfl dX11_init_288 ?_
  refine wt_bipush (by decide) (by decide) dX11_init_289 ?_
  refine wt_icmp (tgt := 351) rfl dX11_init_291 (fun z => absurd (show (9 : Int) ≤ 2 from z) (by decide)) (fun _ => ?_)
  refine wt_aload_n rfl dX11_init_294 ?_
  refine wt_getR (k := 43) (ci := 11) (j := 14) (q := 54) (rs := [none, none, some (some 44), some (some 45), some (some 46), some (some 47), none, some (some 48), some (some 49), some (some 50), none, some (some 51), some (some 52), some (some 53), some (some 54), some (some 55), none, some (some 56), none, some (some 57), some (some 58), none, none, some (some 59), some (some 60), some (some 61), none, some (some 62), some (some 63), none, none, some (some 64), some (some 65), none, none, none, some (some 66), some (some 67), some (some 68), none, some (some 69), some (some 70), some (some 71), some (some 72), some (some 73), none, none, some (some 74), none, none, some (some 75), some (some 76), none, none]) (fieldAt_ok fa_11_45).1 (by decide +kernel) rfl dX11_init_295 ?_
  refine wt_iload_n rfl dX11_init_298 ?_
  refine wt_iload_n rfl dX11_init_299 ?_
  refine wt_iconst ⟨by decide, by decide⟩ dX11_init_300 ?_
  refine wt_icmp (tgt := 310) rfl dX11_init_301 (fun _ => ?_) (fun z => absurd (show (2 : Int) = 2 by decide) z)
  refine wt_iconst ⟨by decide, by decide⟩ dX11_init_310 ?_
  refine wt_goto (tgt := 344) rfl dX11_init_311 ?_
  refine wt_iastore (k := 54) (n := 9) (by decide +kernel) (by decide) (by decide) dX11_init_344 ?_
  rw [show ((2 : Int)).toNat = 2 from rfl]
  refine wt_iinc (i := 1) rfl (by decide) trivial dX11_init_345 ?_
  rw [show wr (2 + 1) = 3 from wr_id (by decide) (by decide)]
  show Wt _ _ _ _ _ _ [some (.inr (.inr 43)), some (.inl 3)] _ _ _ _
  refine wt_goto (tgt := 288) rfl dX11_init_348 ?_
  refine wt_iload_n rfl dX11_init_288 ?_
  refine wt_bipush (by decide) (by decide) dX11_init_289 ?_
  refine wt_icmp (tgt := 351) rfl dX11_init_291 (fun z => absurd (show (9 : Int) ≤ 3 from z) (by decide)) (fun _ => ?_)
  refine wt_aload_n rfl dX11_init_294 ?_
  refine wt_getR (k := 43) (ci := 11) (j := 14) (q := 54) (rs := [none, none, some (some 44), some (some 45), some (some 46), some (some 47), none, some (some 48), some (some 49), some (some 50), none, some (some 51), some (some 52), some (some 53), some (some 54), some (some 55), none, some (some 56), none, some (some 57), some (some 58), none, none, some (some 59), some (some 60), some (some 61), none, some (some 62), some (some 63), none, none, some (some 64), some (some 65), none, none, none, some (some 66), some (some 67), some (some 68), none, some (some 69), some (some 70), some (some 71), some (some 72), some (some 73), none, none, some (some 74), none, none, some (some 75), some (some 76), none, none]) (fieldAt_ok fa_11_45).1 (by decide +kernel) rfl dX11_init_295 ?_
  refine wt_iload_n rfl dX11_init_298 ?_
  refine wt_iload_n rfl dX11_init_299 ?_
  refine wt_iconst ⟨by decide, by decide⟩ dX11_init_300 ?_
  refine wt_icmp (tgt := 310) rfl dX11_init_301 (fun z => absurd (show (3 : Int) = 2 from z) (by decide)) (fun _ => ?_)
  refine wt_iload_n rfl dX11_init_304 ?_
  refine wt_bipush (by decide) (by decide) dX11_init_305 ?_
  refine wt_icmp (tgt := 314) rfl dX11_init_307 (fun _ => ?_) (fun z => absurd (show ¬ (3 : Int) = 8 by decide) z)
  refine wt_iload_n rfl dX11_init_314 ?_
  refine wt_iconst ⟨by decide, by decide⟩ dX11_init_315 ?_
  refine wt_icmp (tgt := 323) rfl dX11_init_316 (fun _ => ?_) (fun z => absurd (show ¬ (3 : Int) = 5 by decide) z)
  refine wt_iload_n rfl dX11_init_323 ?_
  refine wt_bipush (by decide) (by decide) dX11_init_324 ?_
  refine wt_icmp (tgt := 333) rfl dX11_init_326 (fun _ => ?_) (fun z => absurd (show ¬ (3 : Int) = 6 by decide) z)
  refine wt_iload_n rfl dX11_init_333 ?_
  refine wt_bipush (by decide) (by decide) dX11_init_334 ?_
  refine wt_icmp (tgt := 343) rfl dX11_init_336 (fun _ => ?_) (fun z => absurd (show ¬ (3 : Int) = 7 by decide) z)
  refine wt_iconst ⟨by decide, by decide⟩ dX11_init_343 ?_
  refine wt_iastore (k := 54) (n := 9) (by decide +kernel) (by decide) (by decide) dX11_init_344 ?_
  rw [show ((3 : Int)).toNat = 3 from rfl]
  refine wt_iinc (i := 1) rfl (by decide) trivial dX11_init_345 ?_
  rw [show wr (3 + 1) = 4 from wr_id (by decide) (by decide)]
  show Wt _ _ _ _ _ _ [some (.inr (.inr 43)), some (.inl 4)] _ _ _ _
  refine wt_goto (tgt := 288) rfl dX11_init_348 ?_
  refine wt_iload_n rfl dX11_init_288 ?_
  refine wt_bipush (by decide) (by decide) dX11_init_289 ?_
  refine wt_icmp (tgt := 351) rfl dX11_init_291 (fun z => absurd (show (9 : Int) ≤ 4 from z) (by decide)) (fun _ => ?_)
  refine wt_aload_n rfl dX11_init_294 ?_
  refine wt_getR (k := 43) (ci := 11) (j := 14) (q := 54) (rs := [none, none, some (some 44), some (some 45), some (some 46), some (some 47), none, some (some 48), some (some 49), some (some 50), none, some (some 51), some (some 52), some (some 53), some (some 54), some (some 55), none, some (some 56), none, some (some 57), some (some 58), none, none, some (some 59), some (some 60), some (some 61), none, some (some 62), some (some 63), none, none, some (some 64), some (some 65), none, none, none, some (some 66), some (some 67), some (some 68), none, some (some 69), some (some 70), some (some 71), some (some 72), some (some 73), none, none, some (some 74), none, none, some (some 75), some (some 76), none, none]) (fieldAt_ok fa_11_45).1 (by decide +kernel) rfl dX11_init_295 ?_
  refine wt_iload_n rfl dX11_init_298 ?_
  refine wt_iload_n rfl dX11_init_299 ?_
  refine wt_iconst ⟨by decide, by decide⟩ dX11_init_300 ?_
  refine wt_icmp (tgt := 310) rfl dX11_init_301 (fun z => absurd (show (4 : Int) = 2 from z) (by decide)) (fun _ => ?_)
  refine wt_iload_n rfl dX11_init_304 ?_
  refine wt_bipush (by decide) (by decide) dX11_init_305 ?_
  refine wt_icmp (tgt := 314) rfl dX11_init_307 (fun _ => ?_) (fun z => absurd (show ¬ (4 : Int) = 8 by decide) z)
  refine wt_iload_n rfl dX11_init_314 ?_
  refine wt_iconst ⟨by decide, by decide⟩ dX11_init_315 ?_
  refine wt_icmp (tgt := 323) rfl dX11_init_316 (fun _ => ?_) (fun z => absurd (show ¬ (4 : Int) = 5 by decide) z)
  refine wt_iload_n rfl dX11_init_323 ?_
  refine wt_bipush (by decide) (by decide) dX11_init_324 ?_
  refine wt_icmp (tgt := 333) rfl dX11_init_326 (fun _ => ?_) (fun z => absurd (show ¬ (4 : Int) = 6 by decide) z)
  refine wt_iload_n rfl dX11_init_333 ?_
  refine wt_bipush (by decide) (by decide) dX11_init_334 ?_
  refine wt_icmp (tgt := 343) rfl dX11_init_336 (fun _ => ?_) (fun z => absurd (show ¬ (4 : Int) = 7 by decide) z)
  refine wt_iconst ⟨by decide, by decide⟩ dX11_init_343 ?_
  refine wt_iastore (k := 54) (n := 9) (by decide +kernel) (by decide) (by decide) dX11_init_344 ?_
  rw [show ((4 : Int)).toNat = 4 from rfl]
  refine wt_iinc (i := 1) rfl (by decide) trivial dX11_init_345 ?_
  rw [show wr (4 + 1) = 5 from wr_id (by decide) (by decide)]
  show Wt _ _ _ _ _ _ [some (.inr (.inr 43)), some (.inl 5)] _ _ _ _
  refine wt_goto (tgt := 288) rfl dX11_init_348 ?_
  refine wt_iload_n rfl dX11_init_288 ?_
  refine wt_bipush (by decide) (by decide) dX11_init_289 ?_
  refine wt_icmp (tgt := 351) rfl dX11_init_291 (fun z => absurd (show (9 : Int) ≤ 5 from z) (by decide)) (fun _ => ?_)
  refine wt_aload_n rfl dX11_init_294 ?_
  refine wt_getR (k := 43) (ci := 11) (j := 14) (q := 54) (rs := [none, none, some (some 44), some (some 45), some (some 46), some (some 47), none, some (some 48), some (some 49), some (some 50), none, some (some 51), some (some 52), some (some 53), some (some 54), some (some 55), none, some (some 56), none, some (some 57), some (some 58), none, none, some (some 59), some (some 60), some (some 61), none, some (some 62), some (some 63), none, none, some (some 64), some (some 65), none, none, none, some (some 66), some (some 67), some (some 68), none, some (some 69), some (some 70), some (some 71), some (some 72), some (some 73), none, none, some (some 74), none, none, some (some 75), some (some 76), none, none]) (fieldAt_ok fa_11_45).1 (by decide +kernel) rfl dX11_init_295 ?_
  refine wt_iload_n rfl dX11_init_298 ?_
  refine wt_iload_n rfl dX11_init_299 ?_
  refine wt_iconst ⟨by decide, by decide⟩ dX11_init_300 ?_
  refine wt_icmp (tgt := 310) rfl dX11_init_301 (fun z => absurd (show (5 : Int) = 2 from z) (by decide)) (fun _ => ?_)
  refine wt_iload_n rfl dX11_init_304 ?_
  refine wt_bipush (by decide) (by decide) dX11_init_305 ?_
  refine wt_icmp (tgt := 314) rfl dX11_init_307 (fun _ => ?_) (fun z => absurd (show ¬ (5 : Int) = 8 by decide) z)
  refine wt_iload_n rfl dX11_init_314 ?_
  refine wt_iconst ⟨by decide, by decide⟩ dX11_init_315 ?_
  refine wt_icmp (tgt := 323) rfl dX11_init_316 (fun z => absurd (show ¬ (5 : Int) = 5 from z) (by decide)) (fun _ => ?_)
  refine wt_iconst ⟨by decide, by decide⟩ dX11_init_319 ?_
  refine wt_goto (tgt := 344) rfl dX11_init_320 ?_
  refine wt_iastore (k := 54) (n := 9) (by decide +kernel) (by decide) (by decide) dX11_init_344 ?_
  rw [show ((5 : Int)).toNat = 5 from rfl]
  refine wt_iinc (i := 1) rfl (by decide) trivial dX11_init_345 ?_
  rw [show wr (5 + 1) = 6 from wr_id (by decide) (by decide)]
  show Wt _ _ _ _ _ _ [some (.inr (.inr 43)), some (.inl 6)] _ _ _ _
  refine wt_goto (tgt := 288) rfl dX11_init_348 ?_
  refine wt_iload_n rfl dX11_init_288 ?_
  refine wt_bipush (by decide) (by decide) dX11_init_289 ?_
  refine wt_icmp (tgt := 351) rfl dX11_init_291 (fun z => absurd (show (9 : Int) ≤ 6 from z) (by decide)) (fun _ => ?_)
  refine wt_aload_n rfl dX11_init_294 ?_
  refine wt_getR (k := 43) (ci := 11) (j := 14) (q := 54) (rs := [none, none, some (some 44), some (some 45), some (some 46), some (some 47), none, some (some 48), some (some 49), some (some 50), none, some (some 51), some (some 52), some (some 53), some (some 54), some (some 55), none, some (some 56), none, some (some 57), some (some 58), none, none, some (some 59), some (some 60), some (some 61), none, some (some 62), some (some 63), none, none, some (some 64), some (some 65), none, none, none, some (some 66), some (some 67), some (some 68), none, some (some 69), some (some 70), some (some 71), some (some 72), some (some 73), none, none, some (some 74), none, none, some (some 75), some (some 76), none, none]) (fieldAt_ok fa_11_45).1 (by decide +kernel) rfl dX11_init_295 ?_
  refine wt_iload_n rfl dX11_init_298 ?_
  refine wt_iload_n rfl dX11_init_299 ?_
  refine wt_iconst ⟨by decide, by decide⟩ dX11_init_300 ?_
  refine wt_icmp (tgt := 310) rfl dX11_init_301 (fun z => absurd (show (6 : Int) = 2 from z) (by decide)) (fun _ => ?_)
  refine wt_iload_n rfl dX11_init_304 ?_
  refine wt_bipush (by decide) (by decide) dX11_init_305 ?_
  refine wt_icmp (tgt := 314) rfl dX11_init_307 (fun _ => ?_) (fun z => absurd (show ¬ (6 : Int) = 8 by decide) z)
  refine wt_iload_n rfl dX11_init_314 ?_
  refine wt_iconst ⟨by decide, by decide⟩ dX11_init_315 ?_
  refine wt_icmp (tgt := 323) rfl dX11_init_316 (fun _ => ?_) (fun z => absurd (show ¬ (6 : Int) = 5 by decide) z)
  refine wt_iload_n rfl dX11_init_323 ?_
  refine wt_bipush (by decide) (by decide) dX11_init_324 ?_
  refine wt_icmp (tgt := 333) rfl dX11_init_326 (fun z => absurd (show ¬ (6 : Int) = 6 from z) (by decide)) (fun _ => ?_)
  refine wt_iconst ⟨by decide, by decide⟩ dX11_init_329 ?_
  refine wt_goto (tgt := 344) rfl dX11_init_330 ?_
  refine wt_iastore (k := 54) (n := 9) (by decide +kernel) (by decide) (by decide) dX11_init_344 ?_
  rw [show ((6 : Int)).toNat = 6 from rfl]
  refine wt_iinc (i := 1) rfl (by decide) trivial dX11_init_345 ?_
  rw [show wr (6 + 1) = 7 from wr_id (by decide) (by decide)]
  show Wt _ _ _ _ _ _ [some (.inr (.inr 43)), some (.inl 7)] _ _ _ _
  refine wt_goto (tgt := 288) rfl dX11_init_348 ?_
  refine wt_iload_n rfl dX11_init_288 ?_
  refine wt_bipush (by decide) (by decide) dX11_init_289 ?_
  refine wt_icmp (tgt := 351) rfl dX11_init_291 (fun z => absurd (show (9 : Int) ≤ 7 from z) (by decide)) (fun _ => ?_)
  refine wt_aload_n rfl dX11_init_294 ?_
  refine wt_getR (k := 43) (ci := 11) (j := 14) (q := 54) (rs := [none, none, some (some 44), some (some 45), some (some 46), some (some 47), none, some (some 48), some (some 49), some (some 50), none, some (some 51), some (some 52), some (some 53), some (some 54), some (some 55), none, some (some 56), none, some (some 57), some (some 58), none, none, some (some 59), some (some 60), some (some 61), none, some (some 62), some (some 63), none, none, some (some 64), some (some 65), none, none, none, some (some 66), some (some 67), some (some 68), none, some (some 69), some (some 70), some (some 71), some (some 72), some (some 73), none, none, some (some 74), none, none, some (some 75), some (some 76), none, none]) (fieldAt_ok fa_11_45).1 (by decide +kernel) rfl dX11_init_295 ?_
  refine wt_iload_n rfl dX11_init_298 ?_
  refine wt_iload_n rfl dX11_init_299 ?_
  refine wt_iconst ⟨by decide, by decide⟩ dX11_init_300 ?_
  refine wt_icmp (tgt := 310) rfl dX11_init_301 (fun z => absurd (show (7 : Int) = 2 from z) (by decide)) (fun _ => ?_)
  refine wt_iload_n rfl dX11_init_304 ?_
  refine wt_bipush (by decide) (by decide) dX11_init_305 ?_
  refine wt_icmp (tgt := 314) rfl dX11_init_307 (fun _ => ?_) (fun z => absurd (show ¬ (7 : Int) = 8 by decide) z)
  refine wt_iload_n rfl dX11_init_314 ?_
  refine wt_iconst ⟨by decide, by decide⟩ dX11_init_315 ?_
  refine wt_icmp (tgt := 323) rfl dX11_init_316 (fun _ => ?_) (fun z => absurd (show ¬ (7 : Int) = 5 by decide) z)
  refine wt_iload_n rfl dX11_init_323 ?_
  refine wt_bipush (by decide) (by decide) dX11_init_324 ?_
  refine wt_icmp (tgt := 333) rfl dX11_init_326 (fun _ => ?_) (fun z => absurd (show ¬ (7 : Int) = 6 by decide) z)
  refine wt_iload_n rfl dX11_init_333 ?_
  refine wt_bipush (by decide) (by decide) dX11_init_334 ?_
  refine wt_icmp (tgt := 343) rfl dX11_init_336 (fun z => absurd (show ¬ (7 : Int) = 7 from z) (by decide)) (fun _ => ?_)
  refine wt_iconst ⟨by decide, by decide⟩ dX11_init_339 ?_
  refine wt_goto (tgt := 344) rfl dX11_init_340 ?_
  refine wt_iastore (k := 54) (n := 9) (by decide +kernel) (by decide) (by decide) dX11_init_344 ?_
  rw [show ((7 : Int)).toNat = 7 from rfl]
  refine wt_iinc (i := 1) rfl (by decide) trivial dX11_init_345 ?_
  rw [show wr (7 + 1) = 8 from wr_id (by decide) (by decide)]
  show Wt _ _ _ _ _ _ [some (.inr (.inr 43)), some (.inl 8)] _ _ _ _
  refine wt_goto (tgt := 288) rfl dX11_init_348 ?_
  refine wt_iload_n rfl dX11_init_288 ?_
  refine wt_bipush (by decide) (by decide) dX11_init_289 ?_
  refine wt_icmp (tgt := 351) rfl dX11_init_291 (fun z => absurd (show (9 : Int) ≤ 8 from z) (by decide)) (fun _ => ?_)
  refine wt_aload_n rfl dX11_init_294 ?_
  refine wt_getR (k := 43) (ci := 11) (j := 14) (q := 54) (rs := [none, none, some (some 44), some (some 45), some (some 46), some (some 47), none, some (some 48), some (some 49), some (some 50), none, some (some 51), some (some 52), some (some 53), some (some 54), some (some 55), none, some (some 56), none, some (some 57), some (some 58), none, none, some (some 59), some (some 60), some (some 61), none, some (some 62), some (some 63), none, none, some (some 64), some (some 65), none, none, none, some (some 66), some (some 67), some (some 68), none, some (some 69), some (some 70), some (some 71), some (some 72), some (some 73), none, none, some (some 74), none, none, some (some 75), some (some 76), none, none]) (fieldAt_ok fa_11_45).1 (by decide +kernel) rfl dX11_init_295 ?_
  refine wt_iload_n rfl dX11_init_298 ?_
  refine wt_iload_n rfl dX11_init_299 ?_
  refine wt_iconst ⟨by decide, by decide⟩ dX11_init_300 ?_
  refine wt_icmp (tgt := 310) rfl dX11_init_301 (fun z => absurd (show (8 : Int) = 2 from z) (by decide)) (fun _ => ?_)
  refine wt_iload_n rfl dX11_init_304 ?_
  refine wt_bipush (by decide) (by decide) dX11_init_305 ?_
  refine wt_icmp (tgt := 314) rfl dX11_init_307 (fun z => absurd (show ¬ (8 : Int) = 8 from z) (by decide)) (fun _ => ?_)
  refine wt_iconst ⟨by decide, by decide⟩ dX11_init_310 ?_
  refine wt_goto (tgt := 344) rfl dX11_init_311 ?_
  refine wt_iastore (k := 54) (n := 9) (by decide +kernel) (by decide) (by decide) dX11_init_344 ?_
  rw [show ((8 : Int)).toNat = 8 from rfl]
  refine wt_iinc (i := 1) rfl (by decide) trivial dX11_init_345 ?_
  rw [show wr (8 + 1) = 9 from wr_id (by decide) (by decide)]
  show Wt _ _ _ _ _ _ [some (.inr (.inr 43)), some (.inl 9)] _ _ _ _
  refine wt_goto (tgt := 288) rfl dX11_init_348 ?_
  refine wt_iload_n rfl dX11_init_288 ?_
  refine wt_bipush (by decide) (by decide) dX11_init_289 ?_
  refine wt_icmp (tgt := 351) rfl dX11_init_291 (fun _ => ?_) (fun z => absurd (show (9 : Int) ≤ 9 by decide) z)
  exact wt_return rfl dX11_init_351 ⟨rfl, rfl, rfl⟩
theorem cModel_init1_z {h : HP} (hz : Zr 44 h) : Zr 77 (up (up (up (up (up (up (up (up (up (up (up h 43 21 (-1)) 43 52 (-1)) 54 0 2) 54 1 2) 54 2 3) 54 3 2) 54 4 2) 54 5 4) 54 6 0) 54 7 1) 54 8 3) := (Zr.up (Zr.up (Zr.up (Zr.up (Zr.up (Zr.up (Zr.up (Zr.up (Zr.up (Zr.up (Zr.le (Zr.le (Zr.le (Zr.le (Zr.le (Zr.le (Zr.le (Zr.le (Zr.le (Zr.le (Zr.le (Zr.le (Zr.le (Zr.le (Zr.le (Zr.le (Zr.le (Zr.le (Zr.up (Zr.le (Zr.le (Zr.le (Zr.le (Zr.le (Zr.le (Zr.le (Zr.le (Zr.le (Zr.le (Zr.le (Zr.le (Zr.le (Zr.le (Zr.le hz (show 44 ≤ 45 by decide)) (show 45 ≤ 46 by decide)) (show 46 ≤ 47 by decide)) (show 47 ≤ 48 by decide)) (show 48 ≤ 49 by decide)) (show 49 ≤ 50 by decide)) (show 50 ≤ 51 by decide)) (show 51 ≤ 52 by decide)) (show 52 ≤ 53 by decide)) (show 53 ≤ 54 by decide)) (show 54 ≤ 55 by decide)) (show 55 ≤ 56 by decide)) (show 56 ≤ 57 by decide)) (show 57 ≤ 58 by decide)) (show 58 ≤ 59 by decide)) (show 43 < 59 by decide)) (show 59 ≤ 60 by decide)) (show 60 ≤ 61 by decide)) (show 61 ≤ 62 by decide)) (show 62 ≤ 63 by decide)) (show 63 ≤ 64 by decide)) (show 64 ≤ 65 by decide)) (show 65 ≤ 66 by decide)) (show 66 ≤ 67 by decide)) (show 67 ≤ 68 by decide)) (show 68 ≤ 69 by decide)) (show 69 ≤ 70 by decide)) (show 70 ≤ 71 by decide)) (show 71 ≤ 72 by decide)) (show 72 ≤ 73 by decide)) (show 73 ≤ 74 by decide)) (show 74 ≤ 75 by decide)) (show 75 ≤ 76 by decide)) (show 76 ≤ 77 by decide)) (show 43 < 77 by decide)) (show 54 < 77 by decide)) (show 54 < 77 by decide)) (show 54 < 77 by decide)) (show 54 < 77 by decide)) (show 54 < 77 by decide)) (show 54 < 77 by decide)) (show 54 < 77 by decide)) (show 54 < 77 by decide)) (show 54 < 77 by decide))
theorem ShC_end : ShC163 = SH0 := by decide +kernel
