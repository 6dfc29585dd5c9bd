/-! pure: the code of a law is well made; lines eat bytes -/
def wsg (c : Nat → Int32) : Nat → Nat → Nat → Nat → Prop
  | 0, _, h, h' => h = h'
  | k + 1, i, h, h' => ∃ q : Nat, c i = nI q ∧ ((q < 10007 ∧ h < 30 ∧ wsg c k (i + 1) (h + 1) h') ∨ (q = 20000 ∧ 1 ≤ h ∧ wsg c k (i + 1) h h') ∨ (20001 ≤ q ∧ q ≤ 20008 ∧ 2 ≤ h ∧ wsg c k (i + 1) (h - 1) h'))
theorem wsg_fl {c : Nat → Int32} : ∀ (k i h : Nat), wsg c k i h 1 → wfl c k i h := by
  intro k
  induction k with
  | zero => intro i h hh; exact hh
  | succ k ih =>
    intro i h hh
    obtain ⟨q, hq, hh⟩ := hh
    refine ⟨q, hq, ?_⟩
    rcases hh with ⟨h1, h2, h3⟩ | ⟨h1, h2, h3⟩ | ⟨h1, h2, h3, h4⟩
    · by_cases hx : q < 10000
      · exact Or.inl ⟨hx, h2, ih _ _ h3⟩
      · exact Or.inr (Or.inl ⟨by omega, h1, h2, ih _ _ h3⟩)
    · exact Or.inr (Or.inr (Or.inl ⟨h1, h2, ih _ _ h3⟩))
    · exact Or.inr (Or.inr (Or.inr ⟨h1, h2, h3, ih _ _ h4⟩))
theorem wsg_c {c d : Nat → Int32} : ∀ (k i h h' : Nat), (∀ j, i ≤ j → j < i + k → d j = c j) → wsg c k i h h' → wsg d k i h h' := by
  intro k
  induction k with
  | zero => intro i h h' _ hh; exact hh
  | succ k ih =>
    intro i h h' hc hh
    obtain ⟨q, hq, hh⟩ := hh
    have hc' : ∀ j, i + 1 ≤ j → j < i + 1 + k → d j = c j := fun j j1 j2 => hc j (by omega) (by omega)
    refine ⟨q, (hc i (by omega) (by omega)).trans hq, ?_⟩
    rcases hh with ⟨h1, h2, h3⟩ | ⟨h1, h2, h3⟩ | ⟨h1, h2, h3, h4⟩
    · exact Or.inl ⟨h1, h2, ih _ _ _ hc' h3⟩
    · exact Or.inr (Or.inl ⟨h1, h2, ih _ _ _ hc' h3⟩)
    · exact Or.inr (Or.inr ⟨h1, h2, h3, ih _ _ _ hc' h4⟩)
theorem wsg_a {c : Nat → Int32} {n h1 h2 : Nat} : ∀ (k i h : Nat), wsg c k i h h1 → wsg c n (i + k) h1 h2 → wsg c (k + n) i h h2 := by
  intro k
  induction k with
  | zero => intro i h hh h3; cases hh; rw [Nat.zero_add]; exact h3
  | succ k ih =>
    intro i h hh h3
    rw [show k + 1 + n = k + n + 1 by omega]
    rw [show i + (k + 1) = i + 1 + k by omega] at h3
    obtain ⟨q, hq, hh⟩ := hh
    refine ⟨q, hq, ?_⟩
    rcases hh with ⟨a1, a2, a3⟩ | ⟨a1, a2, a3⟩ | ⟨a1, a2, a3, a4⟩
    · exact Or.inl ⟨a1, a2, ih _ _ a3 h3⟩
    · exact Or.inr (Or.inl ⟨a1, a2, ih _ _ a3 h3⟩)
    · exact Or.inr (Or.inr ⟨a1, a2, a3, ih _ _ a4 h3⟩)
/-- from s to s': tokens go on, the code grows by a well made piece from height a to height b -/
def yW (T : TP) (a b : Nat) (s s' : PS) : Prop := tkG T s.1 → tkQ s.1 → tkG T s'.1 ∧ tkQ s'.1 ∧ s.1.2.1 ≤ s'.1.2.1 ∧ s.2.1.2 ≤ s'.2.1.2 ∧ s.2.2 ≤ s'.2.2 ∧ (s'.2.1.2 < 260 → (∀ i, i < s.2.1.2 → s'.2.1.1 i = s.2.1.1 i) ∧ ∀ H, H + a ≤ s.2.2 → H + b ≤ s'.2.2 ∧ wsg s'.2.1.1 (s'.2.1.2 - s.2.1.2) s.2.1.2 (H + a) (H + b))
theorem yW_rf {T : TP} {a : Nat} {s : PS} : yW T a a s s := fun h1 h2 => ⟨h1, h2, Nat.le_refl _, Nat.le_refl _, Nat.le_refl _, fun _ => ⟨fun _ _ => rfl, fun H hH => ⟨hH, by rw [Nat.sub_self]; rfl⟩⟩⟩
theorem yW_tr {T : TP} {a b c : Nat} {s s1 s2 : PS} (h1 : yW T a b s s1) (h2 : yW T b c s1 s2) : yW T a c s s2 := by
  intro q1 q2
  obtain ⟨a1, a2, a3, a4, a5, a6⟩ := h1 q1 q2
  obtain ⟨b1, b2, b3, b4, b5, b6⟩ := h2 a1 a2
  refine ⟨b1, b2, by omega, by omega, by omega, fun hl => ?_⟩
  obtain ⟨c1, c2⟩ := a6 (by omega)
  obtain ⟨d1, d2⟩ := b6 hl
  refine ⟨fun i hi => (d1 i (by omega)).trans (c1 i hi), fun H hH => ?_⟩
  obtain ⟨e1, e2⟩ := c2 H hH
  obtain ⟨f1, f2⟩ := d2 H e1
  refine ⟨f1, ?_⟩
  rw [show s2.2.1.2 - s.2.1.2 = (s1.2.1.2 - s.2.1.2) + (s2.2.1.2 - s1.2.1.2) by omega]
  refine wsg_a _ _ _ (wsg_c _ _ _ _ (fun j _ j2 => d1 j (by omega)) e2) ?_
  rw [show s.2.1.2 + (s1.2.1.2 - s.2.1.2) = s1.2.1.2 by omega]
  exact f2
theorem yW_sh {T : TP} {a b : Nat} {s s1 : PS} (h1 : yW T a b s s1) : yW T (a + 1) (b + 1) s s1 := by
  intro q1 q2
  obtain ⟨a1, a2, a3, a4, a5, a6⟩ := h1 q1 q2
  refine ⟨a1, a2, a3, a4, a5, fun hl => ⟨(a6 hl).1, fun H hH => ?_⟩⟩
  have := (a6 hl).2 (H + 1) (by omega)
  rw [show H + (a + 1) = H + 1 + a by omega, show H + (b + 1) = H + 1 + b by omega]
  exact this
theorem yW_nx {T : TP} {a : Nat} (hT : T.1 ≤ 800) {s : PS} : yW T a a s (nxt T s) := fun h1 h2 => ⟨tkS_g hT h1.1.2.2, tkS_q hT h1.1.2.2, Nat.le_trans h1.1.2.1 (nx_pl hT h1).1, Nat.le_refl _, Nat.le_refl _, fun _ => ⟨fun _ _ => rfl, fun H hH => ⟨hH, by show wsg _ (s.2.1.2 - s.2.1.2) _ _ _; rw [Nat.sub_self]; rfl⟩⟩⟩
theorem yW_u0 {T : TP} {a : Nat} {s : PS} : yW T a a s (unC s) := fun h1 h2 => ⟨h1, h2, Nat.le_refl _, Nat.le_refl _, Nat.le_succ _, fun _ => ⟨fun _ _ => rfl, fun H hH => ⟨Nat.le_succ_of_le hH, by show wsg _ (s.2.1.2 - s.2.1.2) _ _ _; rw [Nat.sub_self]; rfl⟩⟩⟩
theorem adC_l {x : Int32} {s : PS} : s.2.1.2 ≤ (adC x s).2.1.2 ∧ ((adC x s).2.1.2 < 260 → s.2.1.2 < 260 ∧ (adC x s).2.1 = (upd s.2.1.1 s.2.1.2 x, s.2.1.2 + 1)) := by
  unfold adC
  by_cases h : s.2.1.2 < 260
  · simp only [if_pos h]; exact ⟨by omega, fun _ => ⟨h, trivial⟩⟩
  · simp only [if_neg h]; exact ⟨Nat.le_refl _, fun z => absurd z h⟩
theorem yW_ad {T : TP} {a b : Nat} {x : Int32} {s : PS} (hw : ∀ H, H + a ≤ s.2.2 → H + b ≤ s.2.2 ∧ wsg (upd s.2.1.1 s.2.1.2 x) 1 s.2.1.2 (H + a) (H + b)) : yW T a b s (adC x s) := by
  intro h1 h2
  refine ⟨h1, h2, Nat.le_refl _, adC_l.1, Nat.le_refl _, fun hl => ?_⟩
  obtain ⟨e1, e2⟩ := adC_l.2 hl
  rw [e2]
  refine ⟨fun i hi => ?_, fun H hH => ?_⟩
  · show upd _ _ _ _ = _
    unfold upd
    rw [if_neg (by omega)]
  · show H + b ≤ s.2.2 ∧ wsg (upd s.2.1.1 s.2.1.2 x) (s.2.1.2 + 1 - s.2.1.2) s.2.1.2 (H + a) (H + b)
    rw [show s.2.1.2 + 1 - s.2.1.2 = 1 by omega]
    exact hw H hH
theorem upd_s {f : Nat → Int32} {k : Nat} {x : Int32} : upd f k x k = x := by simp [upd]
theorem yW_o2 {T : TP} {x : Int32} {s : PS} (hx : ∃ q, x = nI q ∧ 20001 ≤ q ∧ q ≤ 20008) : yW T 2 1 s (adC x s) := by
  obtain ⟨q, hq, q1, q2⟩ := hx
  refine yW_ad (fun H hH => ⟨by omega, q, upd_s.trans hq, Or.inr (Or.inr ⟨q1, q2, by omega, ?_⟩)⟩)
  show H + 2 - 1 = H + 1
  omega
theorem yW_no {T : TP} {s : PS} : yW T 1 1 s (adC 20000 s) := yW_ad (fun H hH => ⟨hH, 20000, upd_s.trans (by decide +kernel), Or.inr (Or.inl ⟨rfl, by omega, rfl⟩)⟩)
theorem yW_un {T : TP} {x : Int32} {s : PS} (hu : s.2.2 < 30) (hx : tkQ s.1 → ∃ q, x = nI q ∧ q < 10007) : yW T 0 1 s (unC (adC x s)) := by
  intro h1 h2
  obtain ⟨q, hq, q1⟩ := hx h2
  refine ⟨h1, h2, Nat.le_refl _, adC_l.1, Nat.le_succ _, fun hl => ?_⟩
  obtain ⟨e1, e2⟩ := adC_l.2 hl
  show (∀ i, i < s.2.1.2 → (adC x s).2.1.1 i = s.2.1.1 i) ∧ ∀ H, H + 0 ≤ s.2.2 → H + 1 ≤ s.2.2 + 1 ∧ wsg (adC x s).2.1.1 ((adC x s).2.1.2 - s.2.1.2) s.2.1.2 (H + 0) (H + 1)
  rw [e2]
  refine ⟨fun i hi => ?_, fun H hH => ⟨by omega, ?_⟩⟩
  · show upd _ _ _ _ = _
    unfold upd
    rw [if_neg (by omega)]
  · show wsg (upd s.2.1.1 s.2.1.2 x) (s.2.1.2 + 1 - s.2.1.2) s.2.1.2 (H + 0) (H + 1)
    rw [show s.2.1.2 + 1 - s.2.1.2 = 1 by omega]
    exact ⟨q, upd_s.trans hq, Or.inl ⟨q1, by omega, rfl⟩⟩
def yX (T : TP) (X : PS → PR) : Prop := ∀ s s', X s = .inl s' → yW T 0 1 s s'
theorem pb_i {r : PR} {f : PS → PR} {s' : PS} (h : pb r f = .inl s') : ∃ s1, r = .inl s1 ∧ f s1 = .inl s' := by
  cases r with
  | inl s1 => exact ⟨s1, rfl, h⟩
  | inr e => cases h
theorem yX_rf {T : TP} : yX T rfR := fun s s' h => by cases h
theorem yX_U {T : TP} (hT : T.1 ≤ 800) {inn : PS → PR} (hi : yX T inn) : yX T (pU T inn) := by
  intro s s' h
  unfold pU at h
  by_cases h1 : 30 ≤ s.2.2
  · rw [if_pos h1] at h; cases h
  · rw [if_neg h1] at h
    by_cases h2 : isS T s.1 40 = true
    · rw [if_pos h2] at h; exact hi s s' h
    · rw [if_neg h2] at h
      by_cases h3 : s.1.1 ≠ 2 ∧ lkH T s.1 = -1
      · rw [if_pos h3] at h; cases h
      · rw [if_neg h3] at h
        cases h
        refine yW_tr (yW_un (by omega) (fun hq => ?_)) (yW_nx hT)
        by_cases h4 : s.1.1 = 2
        · rw [if_pos h4]
          obtain ⟨q, q1, q2⟩ := hq h4
          exact ⟨q, q2, by omega⟩
        · rw [if_neg h4]
          obtain ⟨-, j, j1, j2⟩ := lk_1 (fun z => h3 ⟨h4, z⟩)
          refine ⟨10000 + j, ?_, by omega⟩
          rw [j2, show (10000 : Int32) = nI 10000 by decide +kernel, nI_add]
theorem yX_N {T : TP} (hT : T.1 ≤ 800) {E : PS → PR} (hE : yX T E) : yX T (pNest T E) := by
  intro s s' h
  obtain ⟨s1, h1, h2⟩ := pb_i h
  by_cases h3 : isS T s1.1 41 = true
  · rw [if_pos h3] at h2
    cases h2
    exact yW_tr yW_u0 (yW_tr (yW_nx hT) (yW_tr (hE _ _ h1) (yW_nx hT)))
  · rw [if_neg h3] at h2; cases h2
theorem yW_L {T : TP} (hT : T.1 ≤ 800) {test : TK → Bool} {opf : TK → Int32} {X : PS → PR} (hX : yX T X) (ho : ∀ k, test k = true → ∃ q, opf k = nI q ∧ 20001 ≤ q ∧ q ≤ 20008) : ∀ (n : Nat) (s s' : PS), pLp T test opf X n s = .inl s' → yW T 1 1 s s' := by
  intro n
  induction n with
  | zero => intro s s' h; cases h; exact yW_rf
  | succ n ih =>
    intro s s' h
    simp only [pLp] at h
    by_cases ht : test s.1 = true
    · rw [if_pos ht] at h
      obtain ⟨s1, h1, h2⟩ := pb_i h
      exact yW_tr (yW_nx hT) (yW_tr (yW_sh (hX _ _ h1)) (yW_tr (yW_o2 (ho _ ht)) (ih _ _ h2)))
    · rw [if_neg ht] at h; cases h; exact yW_rf
theorem yX_L {T : TP} (hT : T.1 ≤ 800) {test : TK → Bool} {opf : TK → Int32} {X : PS → PR} {n : Nat} (hX : yX T X) (ho : ∀ k, test k = true → ∃ q, opf k = nI q ∧ 20001 ≤ q ∧ q ≤ 20008) : yX T (fun s => pb (X s) (pLp T test opf X n)) := by
  intro s s' h
  obtain ⟨s1, h1, h2⟩ := pb_i h
  exact yW_tr (hX _ _ h1) (yW_L hT hX ho n _ _ h2)
theorem yX_T {T : TP} (hT : T.1 ≤ 800) {U : PS → PR} (hU : yX T U) : yX T (pT T U) := yX_L hT hU (fun _ _ => ⟨20008, by decide +kernel, by omega, by omega⟩)
theorem yX_S {T : TP} (hT : T.1 ≤ 800) {U : PS → PR} (hU : yX T U) : yX T (pS T U) := yX_L hT (yX_T hT hU) (fun k _ => by
  unfold oSm
  by_cases h : isS T k 43 = true
  · rw [if_pos h]; exact ⟨20006, by decide +kernel, by omega, by omega⟩
  · rw [if_neg h]; exact ⟨20007, by decide +kernel, by omega, by omega⟩)
theorem rlH_q {T : TP} {k : TK} (h : ¬ rlH T k = -1) : ∃ q, rlH T k = nI q ∧ 20001 ≤ q ∧ q ≤ 20008 := by
  unfold rlH at h ⊢
  by_cases h1 : isS T k 60 = true
  · rw [if_pos h1]; exact ⟨20003, by decide +kernel, by omega, by omega⟩
  · rw [if_neg h1] at h ⊢
    by_cases h2 : isS T k 62 = true
    · rw [if_pos h2]; exact ⟨20004, by decide +kernel, by omega, by omega⟩
    · rw [if_neg h2] at h ⊢
      by_cases h3 : isS T k 61 = true
      · rw [if_pos h3]; exact ⟨20005, by decide +kernel, by omega, by omega⟩
      · rw [if_neg h3] at h; exact absurd rfl h
theorem yX_O {T : TP} (hT : T.1 ≤ 800) {U inO : PS → PR} (hU : yX T U) (hO : yX T inO) : yX T (pO T U inO) := by
  intro s s' h
  unfold pO at h
  by_cases h1 : isWd T s.1 13 = true
  · rw [if_pos h1] at h; exact hO s s' h
  · rw [if_neg h1] at h
    obtain ⟨s1, h2, h3⟩ := pb_i h
    by_cases h4 : rlH T s1.1 = -1
    · rw [if_pos h4] at h3; cases h3; exact yX_S hT hU _ _ h2
    · rw [if_neg h4] at h3
      obtain ⟨s2, h5, h6⟩ := pb_i h3
      cases h6
      exact yW_tr (yX_S hT hU _ _ h2) (yW_tr (yW_nx hT) (yW_tr (yW_sh (yX_S hT hU _ _ h5)) (yW_o2 (rlH_q h4))))
theorem yX_B {T : TP} (hT : T.1 ≤ 800) {O : PS → PR} (hO : yX T O) : yX T (pB T O) := yX_L hT hO (fun _ _ => ⟨20001, by decide +kernel, by omega, by omega⟩)
theorem yX_E {T : TP} (hT : T.1 ≤ 800) {O : PS → PR} (hO : yX T O) : yX T (pE T O) := yX_L hT (yX_B hT hO) (fun _ _ => ⟨20002, by decide +kernel, by omega, by omega⟩)
theorem yX_no {T : TP} (hT : T.1 ≤ 800) {O : PS → PR} (hO : yX T O) : yX T (pNot T O) := by
  intro s s' h
  obtain ⟨s1, h1, h2⟩ := pb_i h
  cases h2
  exact yW_tr (yW_nx hT) (yW_tr (hO _ _ h1) yW_no)
theorem yX_EO {T : TP} (hT : T.1 ≤ 800) : ∀ f, yX T (pEO T f).1 ∧ yX T (pEO T f).2 := by
  intro f
  induction f with
  | zero => exact ⟨yX_E hT (yX_O hT (yX_U hT yX_rf) yX_rf), yX_O hT (yX_U hT yX_rf) yX_rf⟩
  | succ f ih =>
    have hO := yX_O hT (yX_U hT (yX_N hT ih.1)) (yX_no hT ih.2)
    exact ⟨yX_E hT hO, hO⟩
/-- lines -/
def adv (T : TP) (p : Nat) (Z : RG × Nat × Bool × Bool × Bool → Prop) (r : XR) : Prop := ∀ s', r = .inl s' → tkG T s'.1 ∧ tkQ s'.1 ∧ p ≤ s'.1.2.1 ∧ Z s'.2
theorem adv_r {T : TP} {p : Nat} {Z : RG × Nat × Bool × Bool × Bool → Prop} {e : Int32 × Nat} : adv T p Z (.inr e) := fun s' h => by cases h
theorem adv_rf {T : TP} {p : Nat} {Z : RG × Nat × Bool × Bool × Bool → Prop} {s : XS} : adv T p Z (lrf s) := adv_r
theorem adv_l {T : TP} {p : Nat} {Z : RG × Nat × Bool × Bool × Bool → Prop} {s : XS} (h1 : tkG T s.1) (h2 : tkQ s.1) (h3 : p ≤ s.1.2.1) (h4 : Z s.2) : adv T p Z (.inl s) := fun s' h => by cases h; exact ⟨h1, h2, h3, h4⟩
theorem nx_ok {T : TP} (hT : T.1 ≤ 800) {k : TK} {p : Nat} (h1 : tkG T k) (h3 : p ≤ k.2.1) : tkG T (tkS T k.2.2.1) ∧ tkQ (tkS T k.2.2.1) ∧ p ≤ (tkS T k.2.2.1).2.1 := ⟨tkS_g hT h1.1.2.2, tkS_q hT h1.1.2.2, Nat.le_trans h3 (Nat.le_trans h1.1.2.1 (nx_pl hT h1).1)⟩
theorem adv_sg {T : TP} (hT : T.1 ≤ 800) {p : Nat} {Z : RG × Nat × Bool × Bool × Bool → Prop} {r : XR} (h : adv T p Z r) : adv T p Z (lbd r (lSg T 59)) := by
  cases r with
  | inr e => exact adv_r
  | inl s =>
    obtain ⟨h1, h2, h3, h4⟩ := h s rfl
    rw [lbd_l]
    by_cases hs : isS T s.1 59 = true
    · rw [lSg_t hs]
      obtain ⟨q1, q2, q3⟩ := nx_ok hT h1 h3
      exact adv_l q1 q2 q3 h4
    · rw [lSg_f hs]; exact adv_r
theorem adv_t {T : TP} (hT : T.1 ≤ 800) {p i : Nat} {a b : Int32} {Z : RG × Nat × Bool × Bool × Bool → Prop} {k : TK} {G : Int32 → TK → XR} (h1 : tkG T k) (h3 : p ≤ k.2.1) (hG : ∀ x k', tkG T k' → tkQ k' → p ≤ k'.2.1 → adv T p Z (G x k')) : adv T p Z (tbd (tld T i a b k) G) := by
  unfold tld
  by_cases h5 : isWd T k i = true
  · rw [if_pos h5]
    obtain ⟨q1, q2, q3⟩ := nx_ok hT h1 h3
    generalize tkS T k.2.2.1 = k1 at q1 q2 q3 ⊢
    by_cases h6 : tkN k1 a b = true
    · rw [if_pos h6]
      obtain ⟨r1, r2, r3⟩ := nx_ok hT q1 q3
      generalize tkS T k1.2.2.1 = k2 at r1 r2 r3 ⊢
      exact hG k1.2.2.2 k2 r1 r2 r3
    · rw [if_neg h6]; exact adv_r
  · rw [if_neg h5]; exact adv_r
theorem adv_n {T : TP} (hT : T.1 ≤ 800) {p : Nat} {a b : Int32} {Z : RG × Nat × Bool × Bool × Bool → Prop} {k : TK} {G : Int32 → TK → XR} (h1 : tkG T k) (h3 : p ≤ k.2.1) (hG : ∀ x k', tkG T k' → tkQ k' → p ≤ k'.2.1 → adv T p Z (G x k')) : adv T p Z (nbd T a b k G) := by
  unfold nbd
  by_cases h6 : tkN k a b = true
  · rw [if_pos h6]
    obtain ⟨r1, r2, r3⟩ := nx_ok hT h1 h3
    generalize tkS T k.2.2.1 = k2 at r1 r2 r3 ⊢
    exact hG k.2.2.2 k2 r1 r2 r3
  · rw [if_neg h6]; exact adv_r
theorem adv_mo {T : TP} {p : Nat} {Z Z' : RG × Nat × Bool × Bool × Bool → Prop} {r : XR} (h : adv T p Z r) (hz : ∀ x, Z x → Z' x) : adv T p Z' r := fun s' hs => by
  obtain ⟨h1, h2, h3, h4⟩ := h s' hs
  exact ⟨h1, h2, h3, hz _ h4⟩
/-- what a text keeps: the code it had, or a well made one -/
def lOk (C0 : (Int32 × Int32 × Nat × Int32) × (Nat → Int32) × Nat) (z : RG × Nat × Bool × Bool × Bool) : Prop := (z.2.2.2.2 = true → gLn z.1 < 260 → wfl (gC z.1) (gLn z.1) 0 0) ∧ (z.2.2.2.2 = false → z.1.2.2 = C0 ∧ z.2.1 = 2)
theorem lOk_k {C0 : (Int32 × Int32 × Nat × Int32) × (Nat → Int32) × Nat} {g g' : RG} {u : Nat} {b1 b2 b1' b2' b3 : Bool} (h : lOk C0 (g, u, b1, b2, b3)) (hc : g'.2.2 = g.2.2) : lOk C0 (g', u, b1', b2', b3) := by
  refine ⟨fun z hl => ?_, fun z => ?_⟩
  · have := h.1 z
    simp only [gC, gLn] at this hl ⊢
    rw [hc] at hl ⊢
    exact this hl
  · have := h.2 z
    rw [hc]
    exact this
theorem lLine_ok {T : TP} (hT : T.1 ≤ 800) {C0 : (Int32 × Int32 × Nat × Int32) × (Nat → Int32) × Nat} {s : XS} (h1 : tkG T s.1) (hok : lOk C0 s.2) (h0 : ¬ s.1.1 = 0) : adv T (s.1.2.1 + 1) (lOk C0) (lLine T s) := by
  have hp : s.1.2.1 + 1 ≤ (tkS T s.1.2.2.1).2.1 := Nat.le_trans (h1.2.2.2.1 h0) (nx_pl hT h1).1
  have hg : tkG T (tkS T s.1.2.2.1) := tkS_g hT h1.1.2.2
  have hq : tkQ (tkS T s.1.2.2.1) := tkS_q hT h1.1.2.2
  obtain ⟨k0, g, u, b1, b2, b3⟩ := s
  dsimp only at *
  have hrow : ∀ w, adv T (k0.2.1 + 1) (lOk C0) (lPlaces T w (k0, g, u, b1, b2, b3)) := fun w => by
    rw [lPlaces_b]
    refine adv_sg hT ?_
    unfold bRow
    refine adv_n hT hg hp (fun x k q1 q2 q3 => adv_t hT q1 q3 (fun y k2 r1 r2 r3 => adv_l r1 r2 r3 (lOk_k hok rfl)))
  unfold lLine
  by_cases w0 : isWd T k0 0 = true
  · rw [if_pos w0, lSeats_b]
    by_cases hb : b1 = true ∨ b2 = true
    · rw [if_pos hb]; exact adv_r
    · rw [if_neg hb]
      refine adv_sg hT ?_
      unfold bSeats lNm lnx
      generalize tkS T k0.2.2.1 = k1 at hg hq hp ⊢
      by_cases h6 : tkN k1 6 40 = true
      · rw [if_pos h6, lbd_l]
        obtain ⟨q1, q2, q3⟩ := nx_ok hT hg hp
        dsimp only
        generalize tkS T k1.2.2.1 = k2 at q1 q2 q3 ⊢
        exact adv_l q1 q2 q3 (lOk_k hok rfl)
      · rw [if_neg h6]; exact adv_r
  rw [if_neg w0]
  by_cases w1 : isWd T k0 1 = true
  · rw [if_pos w1]; exact hrow 0
  rw [if_neg w1]
  by_cases w2 : isWd T k0 2 = true
  · rw [if_pos w2]; exact hrow 1
  rw [if_neg w2]
  by_cases w3 : isWd T k0 3 = true
  · rw [if_pos w3]; exact hrow 2
  rw [if_neg w3]
  by_cases w5 : isWd T k0 5 = true
  · rw [if_pos w5, lSlack_b]
    by_cases hb : 6 ≤ g.2.1.2.2.2
    · rw [if_pos hb]; exact adv_r
    · rw [if_neg hb]
      refine adv_sg hT ?_
      unfold bSlack
      exact adv_n hT hg hp (fun x k q1 q2 q3 => adv_t hT q1 q3 (fun y k2 r1 r2 r3 => adv_t hT r1 r3 (fun z k3 t1 t2 t3 => adv_l t1 t2 t3 (lOk_k hok rfl))))
  rw [if_neg w5]
  by_cases w7 : isWd T k0 7 = true
  · rw [if_pos w7, lLaw_b]
    by_cases hb : b3 = true
    · rw [if_pos hb]; exact adv_r
    · rw [if_neg hb]
      refine adv_sg hT ?_
      unfold bLaw
      refine adv_t hT hg hp (fun a k1 q1 q2 q3 => adv_t hT q1 q3 (fun b k2 r1 r2 r3 => adv_t hT r1 r3 (fun c k3 t1 t2 t3 => adv_t hT t1 t3 (fun d k4 u1 u2 u3 => ?_))))
      unfold bE
      by_cases h9 : isWd T k4 12 = true
      · rw [if_pos h9]
        obtain ⟨v1, v2, v3⟩ := nx_ok hT u1 u3
        generalize tkS T k4.2.2.1 = k5 at v1 v2 v3 ⊢
        cases hx : (pEO T 7).1 (k5, (gC (sSh d (sSe (tN c) (sRe b (sUp a g)))), 0), 0) with
        | inr e => exact adv_r
        | inl p =>
          obtain ⟨x1, x2, x3, -, -, x6⟩ := (yX_EO hT 7).1 _ _ hx v1 v2
          by_cases h59 : isS T p.1 59 = true
          · simp only [if_pos h59]
            refine adv_l x1 x2 (Nat.le_trans v3 x3) ⟨fun _ hl => ?_, fun z => by cases z⟩
            exact wsg_fl _ _ _ ((x6 hl).2 0 (Nat.le_refl _)).2
          · simp only [if_neg h59]; exact adv_r
      · rw [if_neg h9]; exact adv_r
  rw [if_neg w7]
  exact adv_r
/-- the fuel suffices -/
theorem lText_ok {T : TP} (hT : T.1 ≤ 800) {C0 : (Int32 × Int32 × Nat × Int32) × (Nat → Int32) × Nat} : ∀ (k : Nat) (s : XS), 801 ≤ s.1.2.1 + k → tkG T s.1 → tkQ s.1 → lOk C0 s.2 → ∀ s', lText T k s = .inl s' → s'.1.1 = 0 ∧ lOk C0 s'.2 := by
  intro k
  induction k with
  | zero =>
    intro s hk h1
    have := h1.1
    unfold tkO at this
    omega
  | succ k ih =>
    intro s hk h1 h2 h3 s' hs
    simp only [lText] at hs
    by_cases h0 : s.1.1 = 0
    · rw [if_pos h0] at hs; cases hs; exact ⟨h0, h3⟩
    · rw [if_neg h0] at hs
      have ha := lLine_ok hT h1 h3 h0
      cases hx : lLine T s with
      | inr e => rw [hx] at hs; cases hs
      | inl s2 =>
        rw [hx] at ha hs
        obtain ⟨a1, a2, a3, a4⟩ := ha s2 rfl
        exact ih s2 (by omega) a1 a2 a4 s' hs
