/-! what holds between two calls, in sections; what a call leaves alone -/
def sid (a b : Nat) : Nat := match a with
  | 0 => (if b = 1 then 1 else 0)
  | 1 => 1 | 56 => 1
  | 6 => (if b = 3 then 3 else 0)
  | 7 => 3 | 8 => 3 | 9 => 3 | 48 => 3 | 49 => 3 | 50 => 3
  | 10 => (if b = 4 then 2 else 0)
  | 11 => 2 | 44 => 2
  | 12 => 9 | 13 => 9 | 14 => 9 | 45 => 9 | 46 => 9 | 47 => 9
  | 15 => (if b = 3 then 4 else 0)
  | 16 => 4 | 17 => 4 | 18 => 4 | 51 => 4 | 52 => 4 | 53 => 4
  | 4 => 5 | 5 => 5 | 54 => 5 | 55 => 5 | 1002 => 5 | 1003 => 5
  | 19 => (if b = 4 ∨ b = 5 ∨ b = 6 then 6 else 0)
  | 20 => 6 | 21 => 6 | 22 => 6 | 23 => 6 | 57 => 6
  | 36 => (if b = 4 then 7 else 0)
  | 37 => 7 | 38 => 7 | 39 => 7 | 40 => 7 | 69 => 7 | 70 => 7 | 71 => 7 | 72 => 7
  | 41 => (if b = 3 ∨ b = 4 then 8 else 0)
  | 42 => 8 | 76 => 8
  | 43 => (if b = 1 then 2 else if b = 6 then 3 else if b = 10 then 4 else if b = 16 then 1 else if b = 18 ∨ b = 21 then 6 else if b = 39 then 7 else if b = 52 ∨ b = 53 then 8 else 0)
  | _ => 0
def Swords (g : HP) : Prop := CW g ∧ IWords g ∧ CMW g g
def Snames (g : HP) : Prop := CN g ∧ CMN g g
def Srules (g : HP) : Prop := CR g ∧ CMR g g ∧ ∀ k : Nat, k < 40 → g 15 3 ≤ (k : Int) → g 17 k = 0
def Ssett (g : HP) : Prop := CS g ∧ CMS g g ∧ ∀ j : Nat, j < 9 → g 1002 j = setLo j ∧ g 1003 j = setHi j
def Sline (g : HP) : Prop := CL0 g ∧ CML g g
def Slog (g : HP) : Prop := CLg g ∧ CMg g g
def IV (g : HP) : Prop := ITape g ∧ Swords g ∧ Snames g ∧ Srules g ∧ Ssett g ∧ Sline g ∧ Slog g ∧ ICell g
theorem IV.ci {g : HP} (h : IV g) : CI g := ⟨h.2.1.1, h.2.2.1.1, h.2.2.2.1.1, h.2.2.2.2.1.1, h.2.2.2.2.2.1.1⟩
theorem IV.cm {g : HP} (h : IV g) : CM g g := ⟨h.2.1.2.2, h.2.2.1.2, h.2.2.2.1.2.1, h.2.2.2.2.1.2.1, h.2.2.2.2.2.1.2⟩
theorem IV.cl {g : HP} (h : IV g) : CLg g := h.2.2.2.2.2.2.1.1
theorem IV.cg {g : HP} (h : IV g) : CMg g g := h.2.2.2.2.2.2.1.2
/-- all that lasts is as it was, but for the sections of the list -/
def SF (L : List Nat) (g h : HP) : Prop := ∀ a b, sid a b ≠ 0 → sid a b ∉ L → h a b = g a b
theorem SF.rf {L : List Nat} {g : HP} : SF L g g := fun _ _ _ _ => rfl
theorem SF.tr {L : List Nat} {a b c : HP} (h1 : SF L a b) (h2 : SF L b c) : SF L a c := fun k j p q => (h2 k j p q).trans (h1 k j p q)
theorem SF.le {L L' : List Nat} {a b : HP} (h1 : SF L a b) (h2 : ∀ x ∈ L, x ∈ L') : SF L' a b := fun k j p q => h1 k j p (fun z => q (h2 _ z))
theorem SF.up {L : List Nat} {g h : HP} (h1 : SF L g h) {k j : Nat} {x : Int} (hk : sid k j = 0 ∨ sid k j ∈ L) : SF L g (up h k j x) := fun a b p q => by
  rw [up_off (fun e => by
    obtain ⟨rfl, rfl⟩ := e
    rcases hk with z | z
    · exact p z
    · exact q z)]
  exact h1 a b p q
theorem SF.cpy {L : List Nat} {g h : HP} (h1 : SF L g h) {ks kd sp dp n : Nat} (hk : ∀ j, sid kd j ∈ L) : SF L g (cpy h ks kd sp dp n) := fun a b p q => by
  rw [cpy_ne (fun e => by subst e; exact q (hk b))]
  exact h1 a b p q
theorem SF.rows {L : List Nat} {g h : HP} (h1 : ∀ a b, (∀ x, sid a b = x → x ≠ 0 → x ∉ L → h a b = g a b)) : SF L g h := fun a b p q => h1 a b _ rfl p q
theorem SF.sy {L : List Nat} {a b : HP} (h1 : SF L a b) : SF L b a := fun k j p q => (h1 k j p q).symm
theorem sid_kf {a b : Nat} (h : sid a b ≠ 0) : a < 24 ∨ 36 ≤ a := by
  by_cases z : a < 24 ∨ 36 ≤ a
  · exact z
  · exfalso
    have z1 : 24 ≤ a := by omega
    have z2 : a ≤ 35 := by omega
    obtain ⟨d, rfl⟩ : ∃ d, a = 24 + d := ⟨a - 24, by omega⟩
    have hd : d < 12 := by omega
    have : ∀ d, d < 12 → sid (24 + d) b = 0 := by
      intro d hd
      have : d = 0 ∨ d = 1 ∨ d = 2 ∨ d = 3 ∨ d = 4 ∨ d = 5 ∨ d = 6 ∨ d = 7 ∨ d = 8 ∨ d = 9 ∨ d = 10 ∨ d = 11 := by omega
      rcases this with rfl | rfl | rfl | rfl | rfl | rfl | rfl | rfl | rfl | rfl | rfl | rfl <;> rfl
    exact h (this d hd)
theorem SF.kf {g h : HP} (hk : KF g h) : SF [] g h := fun a b p _ => by rw [hk a (sid_kf p)]
theorem sid_ms {a b : Nat} (h : sid a b ≠ 0) (h1 : 43 ≤ a) (h2 : a < 77) : persM a b = true := by
  unfold sid at h
  split at h
  all_goals first
    | omega
    | rfl
    | exact absurd rfl h
    | skip
  unfold persM
  by_cases z1 : b = 1
  · subst z1; rfl
  · by_cases z2 : b = 6
    · subst z2; rfl
    · by_cases z3 : b = 10
      · subst z3; rfl
      · by_cases z4 : b = 16
        · subst z4; rfl
        · by_cases z5 : b = 18 ∨ b = 21
          · rcases z5 with rfl | rfl <;> rfl
          · by_cases z6 : b = 39
            · subst z6; rfl
            · by_cases z7 : b = 52 ∨ b = 53
              · rcases z7 with rfl | rfl <;> rfl
              · rw [if_neg z1, if_neg z2, if_neg z3, if_neg z4, if_neg z5, if_neg z6, if_neg z7] at h
                exact absurd rfl h
theorem SF.ms {g h : HP} (hk : MS g h) : SF [] g h := fun a b p _ => by
  by_cases z : 43 ≤ a ∧ a < 77
  · exact hk.2 a b (sid_ms p z.1 z.2)
  · rw [hk.1 a (by omega)]
theorem Stape_c {g h : HP} (E : ∀ a b, sid a b = 1 → h a b = g a b) (hs : ITape g) : ITape h := by
  have r : ∀ a, (∀ b, sid a b = 1) → h a = g a := fun a ha => funext fun b => E a b (ha b)
  unfold ITape at *
  rw [E 0 1 rfl, E 43 16 rfl, r 1 (fun _ => rfl), r 56 (fun _ => rfl)]
  exact hs
theorem Swords_c {g h : HP} (E : ∀ a b, sid a b = 2 ∨ sid a b = 9 → h a b = g a b) (hs : Swords g) : Swords h := by
  have r : ∀ a, (∀ b, sid a b = 2 ∨ sid a b = 9) → h a = g a := fun a ha => funext fun b => E a b (ha b)
  unfold Swords CW IWords CMW at *
  rw [E 10 4 (Or.inl rfl), E 43 1 (Or.inl rfl), r 11 (fun _ => Or.inl rfl), r 12 (fun _ => Or.inr rfl), r 13 (fun _ => Or.inr rfl), r 14 (fun _ => Or.inr rfl), r 44 (fun _ => Or.inl rfl), r 45 (fun _ => Or.inr rfl), r 46 (fun _ => Or.inr rfl), r 47 (fun _ => Or.inr rfl)]
  exact hs
theorem Snames_c {g h : HP} (E : ∀ a b, sid a b = 2 ∨ sid a b = 3 → h a b = g a b) (hs : Snames g) : Snames h := by
  have r : ∀ a, (∀ b, sid a b = 2 ∨ sid a b = 3) → h a = g a := fun a ha => funext fun b => E a b (ha b)
  unfold Snames CN CMN mt at *
  rw [E 10 4 (Or.inl rfl), E 6 3 (Or.inr rfl), E 43 6 (Or.inr rfl), r 7 (fun _ => Or.inr rfl), r 8 (fun _ => Or.inr rfl), r 9 (fun _ => Or.inr rfl), r 48 (fun _ => Or.inr rfl), r 49 (fun _ => Or.inr rfl), r 50 (fun _ => Or.inr rfl)]
  exact hs
theorem Srules_c {g h : HP} (E : ∀ a b, sid a b = 2 ∨ sid a b = 4 → h a b = g a b) (hs : Srules g) : Srules h := by
  have r : ∀ a, (∀ b, sid a b = 2 ∨ sid a b = 4) → h a = g a := fun a ha => funext fun b => E a b (ha b)
  unfold Srules CR CMR okTok at *
  rw [E 10 4 (Or.inl rfl), E 15 3 (Or.inr rfl), E 43 10 (Or.inr rfl), r 11 (fun _ => Or.inl rfl), r 16 (fun _ => Or.inr rfl), r 17 (fun _ => Or.inr rfl), r 18 (fun _ => Or.inr rfl), r 51 (fun _ => Or.inr rfl), r 52 (fun _ => Or.inr rfl), r 53 (fun _ => Or.inr rfl)]
  exact hs
theorem Ssett_c {g h : HP} (E : ∀ a b, sid a b = 5 → h a b = g a b) (hs : Ssett g) : Ssett h := by
  have r : ∀ a, (∀ b, sid a b = 5) → h a = g a := fun a ha => funext fun b => E a b (ha b)
  unfold Ssett CS CMS at *
  rw [r 4 (fun _ => rfl), r 5 (fun _ => rfl), r 54 (fun _ => rfl), r 55 (fun _ => rfl), r 1002 (fun _ => rfl), r 1003 (fun _ => rfl)]
  exact hs
theorem Sline_c {g h : HP} (E : ∀ a b, sid a b = 3 ∨ sid a b = 6 → h a b = g a b) (hs : Sline g) : Sline h := by
  have r : ∀ a, (∀ b, sid a b = 3 ∨ sid a b = 6) → h a = g a := fun a ha => funext fun b => E a b (ha b)
  unfold Sline CL0 CML IRuns known mt tw at *
  rw [E 6 3 (Or.inl rfl), E 19 4 (Or.inr rfl), E 19 5 (Or.inr rfl), E 19 6 (Or.inr rfl), E 43 18 (Or.inr rfl), E 43 21 (Or.inr rfl), r 7 (fun _ => Or.inl rfl), r 8 (fun _ => Or.inl rfl), r 20 (fun _ => Or.inr rfl), r 21 (fun _ => Or.inr rfl), r 22 (fun _ => Or.inr rfl), r 23 (fun _ => Or.inr rfl), r 57 (fun _ => Or.inr rfl)]
  exact hs
theorem Slog_c {g h : HP} (E : ∀ a b, sid a b = 2 ∨ sid a b = 7 → h a b = g a b) (hs : Slog g) : Slog h := by
  have r : ∀ a, (∀ b, sid a b = 2 ∨ sid a b = 7) → h a = g a := fun a ha => funext fun b => E a b (ha b)
  unfold Slog CLg CMg at *
  rw [E 10 4 (Or.inl rfl), E 36 4 (Or.inr rfl), E 43 39 (Or.inr rfl), r 37 (fun _ => Or.inr rfl), r 38 (fun _ => Or.inr rfl), r 39 (fun _ => Or.inr rfl), r 40 (fun _ => Or.inr rfl), r 69 (fun _ => Or.inr rfl), r 70 (fun _ => Or.inr rfl), r 71 (fun _ => Or.inr rfl), r 72 (fun _ => Or.inr rfl)]
  exact hs
theorem Scell_c {g h : HP} (E : ∀ a b, sid a b = 8 → h a b = g a b) (hs : ICell g) : ICell h := by
  have r : ∀ a, (∀ b, sid a b = 8) → h a = g a := fun a ha => funext fun b => E a b (ha b)
  unfold ICell at *
  rw [E 41 3 rfl, E 41 4 rfl, E 43 52 rfl, E 43 53 rfl, r 42 (fun _ => rfl), r 76 (fun _ => rfl)]
  exact hs
theorem SF.at {L : List Nat} {g h : HP} (sf : SF L g h) {s : Nat} (h0 : s ≠ 0) (hs : s ∉ L) {a b : Nat} (e : sid a b = s) : h a b = g a b := sf a b (by rw [e]; exact h0) (by rw [e]; exact hs)
theorem IV_of {L : List Nat} {g h : HP} (hI : IV g) (sf : SF L g h) (s1 : 1 ∈ L → ITape h) (s2 : 2 ∈ L ∨ 9 ∈ L → Swords h) (s3 : 2 ∈ L ∨ 3 ∈ L → Snames h) (s4 : 2 ∈ L ∨ 4 ∈ L → Srules h) (s5 : 5 ∈ L → Ssett h) (s6 : 3 ∈ L ∨ 6 ∈ L → Sline h) (s7 : 2 ∈ L ∨ 7 ∈ L → Slog h) (s8 : 8 ∈ L → ICell h) : IV h := by
  obtain ⟨i1, i2, i3, i4, i5, i6, i7, i8⟩ := hI
  have two : ∀ s t : Nat, s ≠ 0 → t ≠ 0 → ¬ (s ∈ L ∨ t ∈ L) → ∀ a b, sid a b = s ∨ sid a b = t → h a b = g a b := fun s t h0 h0' hn a b e => by
    rcases e with e | e
    · exact sf.at h0 (fun z => hn (Or.inl z)) e
    · exact sf.at h0' (fun z => hn (Or.inr z)) e
  refine ⟨?_, ?_, ?_, ?_, ?_, ?_, ?_, ?_⟩
  · by_cases z : 1 ∈ L
    · exact s1 z
    · exact Stape_c (fun a b e => sf.at (by decide) z e) i1
  · by_cases z : 2 ∈ L ∨ 9 ∈ L
    · exact s2 z
    · exact Swords_c (two 2 9 (by decide) (by decide) z) i2
  · by_cases z : 2 ∈ L ∨ 3 ∈ L
    · exact s3 z
    · exact Snames_c (two 2 3 (by decide) (by decide) z) i3
  · by_cases z : 2 ∈ L ∨ 4 ∈ L
    · exact s4 z
    · exact Srules_c (two 2 4 (by decide) (by decide) z) i4
  · by_cases z : 5 ∈ L
    · exact s5 z
    · exact Ssett_c (fun a b e => sf.at (by decide) z e) i5
  · by_cases z : 3 ∈ L ∨ 6 ∈ L
    · exact s6 z
    · exact Sline_c (two 3 6 (by decide) (by decide) z) i6
  · by_cases z : 2 ∈ L ∨ 7 ∈ L
    · exact s7 z
    · exact Slog_c (two 2 7 (by decide) (by decide) z) i7
  · by_cases z : 8 ∈ L
    · exact s8 z
    · exact Scell_c (fun a b e => sf.at (by decide) z e) i8
theorem IV_0 {g h : HP} (hI : IV g) (sf : SF [] g h) : IV h := IV_of hI sf (fun z => absurd z (by decide)) (fun z => absurd z (by decide)) (fun z => absurd z (by decide)) (fun z => absurd z (by decide)) (fun z => absurd z (by decide)) (fun z => absurd z (by decide)) (fun z => absurd z (by decide)) (fun z => absurd z (by decide))
/-- a call of the class and the same call of the reference -/
def PR (mc mm : MI) (ac am : List AV) (g : HP) : Prop := ∃ Q : Int → HP → Prop, trI mc ac SH0 g Q ∧ ∀ r h1, Q r h1 → ∃ Q' : Int → HP → Prop, trI mm am SH0 h1 Q' ∧ ∀ r' h2, Q' r' h2 → r = r' ∧ IV h2
theorem pr_ro {mc mm : MI} {ac am : List AV} {S : HP → Int → Prop} {g : HP} (hI : IV g) (c : trI mc ac SH0 g (roC S g)) (m : ∀ h1, KF g h1 → trI mm am SH0 h1 (roM (S g) h1)) (uni : ∀ r r', S g r → S g r' → r = r') : PR mc mm ac am g := ⟨_, c, fun r h1 hq => ⟨_, m h1 hq.1, fun r' h2 hq' => ⟨uni r r' hq.2 hq'.2, IV_0 (IV_0 hI (SF.kf hq.1)) (SF.ms hq'.1)⟩⟩⟩
theorem CMg.kf {g h h' : HP} (hk : KF h h') (hm : CMg g h) : CMg g h' := by
  have e : ∀ a, 43 ≤ a → h' a = h a := fun a ha => hk a (Or.inr (by omega))
  unfold CMg at *
  rw [e 43 (by decide), e 69 (by decide), e 70 (by decide), e 71 (by decide), e 72 (by decide)]
  exact hm
theorem p_look {g : HP} (hI : IV g) : PR mHelp_look mModel_look [.inr (.inr 0)] [.inr (.inr 43)] g := pr_ro hI (t_Help_look g hI.ci) (fun h1 hk => t_Model_look g h1 hI.ci (hI.cm.kf hk)) (fun r r' ⟨_, _, _, a⟩ ⟨_, _, _, b⟩ => (verdR_uni a b).1)
theorem p_at {g : HP} (hI : IV g) (i : Int) : PR mHelp_at mModel_at [.inr (.inr 0), .inl i] [.inr (.inr 43), .inl i] g := pr_ro hI (t_Help_at g hI.ci i) (fun h1 hk => t_Model_at g h1 hI.ci (hI.cm.kf hk) i) (fun r r' a b => by
  unfold sAt at a b
  omega)
theorem p_typed {g : HP} (hI : IV g) (k w : Int) : PR mHelp_typed mModel_typed [.inr (.inr 0), .inl k, .inl w] [.inr (.inr 43), .inl k, .inl w] g := pr_ro hI (t_Help_typed g hI.ci k w) (fun h1 hk => t_Model_typed g h1 hI.ci (hI.cm.kf hk) k w) (fun r r' a b => by
  unfold sTyped at a b
  omega)
theorem p_count {g : HP} (hI : IV g) (w : Int) : PR mHelp_count mModel_count [.inr (.inr 0), .inl w] [.inr (.inr 43), .inl w] g := pr_ro hI (t_Help_count g w) (fun h1 hk => t_Model_count g h1 hI.ci (hI.cm.kf hk) ((hI.cg.kf hk).1) (by rw [hk 43 (by decide)]; exact hI.1.2.2.1) w) (fun r r' a b => a.trans b.symm)
theorem p_told {g : HP} (hI : IV g) (w : Int) : PR mHelp_told mModel_told [.inr (.inr 0), .inl w] [.inr (.inr 43), .inl w] g := pr_ro hI (t_Help_told g hI.ci w) (fun h1 hk => t_Model_told g h1 hI.ci (hI.cm.kf hk) w) (fun r r' a b => sTold_uni a b)
theorem p_proposal {g : HP} (hI : IV g) (i w : Int) : PR mHelp_proposal mModel_proposal [.inr (.inr 0), .inl i, .inl w] [.inr (.inr 43), .inl i, .inl w] g := pr_ro hI (t_Help_proposal g hI.ci i w) (fun h1 hk => t_Model_proposal g h1 hI.ci (hI.cm.kf hk) i w) (fun r r' a b => sProp_uni a b)
theorem p_missing {g : HP} (hI : IV g) (i : Int) : PR mHelp_missing mModel_missing [.inr (.inr 0), .inl i] [.inr (.inr 43), .inl i] g := pr_ro hI (t_Help_missing g hI.ci i) (fun h1 hk => t_Model_missing g h1 hI.ci (hI.cm.kf hk) i) (fun r r' a b => sMiss_uni a b)
theorem p_hint {g : HP} (hI : IV g) (i : Int) : PR mHelp_hint mModel_hint [.inr (.inr 0), .inl i] [.inr (.inr 43), .inl i] g := pr_ro hI (t_Help_hint g hI.ci i) (fun h1 hk => t_Model_hint g h1 hI.ci (hI.cm.kf hk) i) (fun r r' a b => sHint_uni a b)
theorem p_verbs {g : HP} (hI : IV g) (t i : Int) : PR mHelp_verbs mModel_verbs [.inr (.inr 0), .inl t, .inl i] [.inr (.inr 43), .inl t, .inl i] g := pr_ro hI (t_Help_verbs g hI.ci t i) (fun h1 hk => t_Model_verbs g h1 hI.ci (hI.cm.kf hk) t i) (fun r r' a b => sVerbs_uni a b)
theorem p_forward {g : HP} (hI : IV g) : PR mHelp_forward mModel_forward [.inr (.inr 0)] [.inr (.inr 43)] g := pr_ro hI (t_Help_forward g hI.cl) (fun h1 hk => t_Model_forward g h1 hI.ci hI.cl (hI.cm.kf hk) (hI.cg.kf hk)) (fun r r' a b => a.trans b.symm)
theorem p_pair {g : HP} (hI : IV g) (i w : Int) (hw : inR w) : PR mHelp_pair mModel_pair [.inr (.inr 0), .inl i, .inl w] [.inr (.inr 43), .inl i, .inl w] g := pr_ro hI (t_Help_pair g hI.cl i w hw) (fun h1 hk => t_Model_pair g h1 hI.ci hI.cl (hI.cm.kf hk) (hI.cg.kf hk) i w hw) (fun r r' a b => sPair_uni hI.cl a b)
