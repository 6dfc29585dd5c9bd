/-! the model's way through a law: what waits, and that it says what the levels say -/
def cQ (w : Nat) : Nat := if w = 20 then 20002 else if w = 21 then 20001 else if w = 22 then 20000 else if w = 23 then 20005 else if w = 24 then 20003 else if w = 25 then 20004 else w + 19980
theorem cQ_ok : ∀ w, w < 29 → 20 ≤ w → cQ w ≤ 20008 ∧ 20000 ≤ cQ w ∧ whN (cQ w) = w := by decide
def yfl : List Nat → PS → PS
  | [], s => s
  | w :: P, s => yfl P (adC (nI (cQ w)) s)
def ystl (r : Nat) : List Nat → PS → PS × List Nat
  | [], s => (s, [])
  | w :: W, s => if w = 30 ∨ w < r then (s, w :: W) else ystl r W (adC (nI (cQ w)) s)
def ytp : List Nat → Nat
  | [] => 30
  | w :: _ => w
def yrk (w : Nat) : Nat := if w = 27 then 26 else if w = 24 ∨ w = 25 then 23 else w
def ynd : List Nat → Nat
  | [] => 0
  | w :: W => (if w = 30 ∨ w = 22 then 1 else 0) + ynd W
def yop : List Nat → Bool
  | [] => false
  | w :: W => decide (w = 30) || yop W
def ywh (T : TP) (k : TK) : Nat := if isS T k 43 = true then 26 else if isS T k 45 = true then 27 else if isS T k 42 = true then 28 else if isS T k 61 = true then 23 else if isS T k 60 = true then 24 else if isS T k 62 = true then 25 else if isWd T k 20 = true then 21 else if isWd T k 21 = true then 20 else 0
abbrev YS : Type := PS × List Nat × Nat
abbrev YR : Type := YS ⊕ (Int32 × Nat)
def yrf (s : PS) : YR := .inr (rfF s.1, s.1.2.1)
def yun (T : TP) (s : PS) : PS := unC (adC (if s.1.1 = 2 then s.1.2.2.2 else 10000 + lkH T s.1) s)
def yopd (T : TP) (s : PS) (W : List Nat) (now : Nat) : YR :=
  if now = 0 ∧ isWd T s.1 13 = true then (if 7 ≤ ynd W then yrf s else .inl (nxt T s, 22 :: W, 0))
  else if 30 ≤ s.2.2 then yrf s
  else if isS T s.1 40 = true then (if 7 ≤ ynd W then yrf s else .inl (nxt T (unC s), 30 :: W, 0))
  else if s.1.1 ≠ 2 ∧ lkH T s.1 = -1 then yrf s
  else .inl (nxt T (yun T s), W, 2)
def ysgn (T : TP) (s : PS) (W : List Nat) : YR :=
  if isS T s.1 41 = true ∧ yop W = true then .inl (nxt T (ystl 0 W s).1, (ystl 0 W s).2.tail, 2)
  else if ywh T s.1 = 0 then yrf s
  else if yrk (ywh T s.1) = 23 then (if yrk (ytp (ystl 26 W s).2) = 23 then yrf s else .inl (nxt T (ystl 26 W s).1, ywh T s.1 :: (ystl 26 W s).2, 1))
  else .inl (nxt T (ystl (yrk (ywh T s.1)) W s).1, ywh T s.1 :: (ystl (yrk (ywh T s.1)) W s).2, if ywh T s.1 ≤ 21 then 0 else 1)
abbrev yfin (T : TP) (c : YS) : Prop := c.2.2 = 2 ∧ isS T c.1.1 59 = true ∧ yop c.2.1 = false
def yst (T : TP) (c : YS) : YR := if yfin T c then .inl c else if c.2.2 = 2 then ysgn T c.1 c.2.1 else yopd T c.1 c.2.1 c.2.2
def yrun (T : TP) : Nat → YS → YR
  | 0, c => .inl c
  | n + 1, c => match yst T c with
    | .inl c1 => yrun T n c1
    | .inr e => .inr e
def yR (T : TP) (c : YS) (r : YR) : Prop := ∃ n, yrun T n c = r
theorem yrun_add {T : TP} {c1 : YS} : ∀ (n m : Nat) (c : YS), yrun T n c = .inl c1 → yrun T (n + m) c = yrun T m c1 := by
  intro n
  induction n with
  | zero => intro m c h; simp only [yrun] at h; cases h; rw [Nat.zero_add]
  | succ n ih =>
    intro m c h
    rw [Nat.add_right_comm]
    simp only [yrun] at h ⊢
    cases hx : yst T c with
    | inl c2 => rw [hx] at h; exact ih m c2 h
    | inr e => rw [hx] at h; cases h
theorem yR_rf {T : TP} {c : YS} : yR T c (.inl c) := ⟨0, rfl⟩
theorem yR_tr {T : TP} {c c1 : YS} {r : YR} (h1 : yR T c (.inl c1)) (h2 : yR T c1 r) : yR T c r := by
  obtain ⟨n, hn⟩ := h1
  obtain ⟨m, hm⟩ := h2
  exact ⟨n + m, by rw [yrun_add n m c hn, hm]⟩
theorem yR_1 {T : TP} {c : YS} {r : YR} (h : yst T c = r) : yR T c r := by
  refine ⟨1, ?_⟩
  simp only [yrun]
  rw [h]
  cases r <;> rfl
theorem yR_o {T : TP} {s : PS} {W : List Nat} {now : Nat} {r : YR} (hn : now ≠ 2) (h : yopd T s W now = r) : yR T (s, W, now) r := by
  apply yR_1
  unfold yst
  rw [if_neg (fun z => hn z.1), if_neg hn, h]
theorem isS_u {T : TP} {k : TK} {c d : Int32} (h : isS T k c = true) (hd : c ≠ d) : ¬ isS T k d = true := fun h2 => by
  unfold isS at h h2
  rw [decide_eq_true_iff] at h h2
  exact hd (h.2.symm.trans h2.2)
theorem isS_w {T : TP} {k : TK} {c : Int32} {i : Nat} (h : isS T k c = true) : ¬ isWd T k i = true := fun h2 => by
  unfold isS at h
  unfold isWd at h2
  rw [decide_eq_true_iff] at h
  rw [Bool.and_eq_true, decide_eq_true_iff] at h2
  omega
theorem isW_s {T : TP} {k : TK} {c : Int32} {i : Nat} (h : isWd T k i = true) : ¬ isS T k c = true := fun h2 => isS_w h2 h
theorem ywh_59 {T : TP} {k : TK} (h : isS T k 59 = true) : ywh T k = 0 := by
  unfold ywh
  rw [if_neg (isS_u h (by decide)), if_neg (isS_u h (by decide)), if_neg (isS_u h (by decide)), if_neg (isS_u h (by decide)), if_neg (isS_u h (by decide)), if_neg (isS_u h (by decide)), if_neg (isS_w h), if_neg (isS_w h)]
theorem ysgn_nf {T : TP} {s : PS} {W : List Nat} {c : YS} (h : ysgn T s W = .inl c) : ¬ yfin T (s, W, 2) := fun z => by
  unfold ysgn at h
  rw [if_neg (fun q => isS_u z.2.1 (by decide) q.1), if_pos (ywh_59 z.2.1)] at h
  cases h
theorem yR_s {T : TP} {s : PS} {W : List Nat} {c : YS} (h : ysgn T s W = .inl c) : yR T (s, W, 2) (.inl c) := by
  apply yR_1
  unfold yst
  rw [if_neg (ysgn_nf h), if_pos rfl, h]
theorem yR_f {T : TP} {s : PS} {W : List Nat} {e : Int32 × Nat} (hf : ¬ yfin T (s, W, 2)) (h : ysgn T s W = .inr e) : yR T (s, W, 2) (.inr e) := by
  apply yR_1
  unfold yst
  rw [if_neg hf, if_pos rfl, h]
theorem adC_1 {x : Int32} {s : PS} : (adC x s).1 = s.1 ∧ (adC x s).2.2 = s.2.2 := ⟨rfl, rfl⟩
theorem yfl_1 : ∀ (P : List Nat) (s : PS), (yfl P s).1 = s.1 ∧ (yfl P s).2.2 = s.2.2 := by
  intro P
  induction P with
  | nil => intro s; exact ⟨rfl, rfl⟩
  | cons p P ih => intro s; exact ih (adC (nI (cQ p)) s)
theorem yfl_ap : ∀ (P Q : List Nat) (s : PS), yfl (P ++ Q) s = yfl Q (yfl P s) := by
  intro P
  induction P with
  | nil => intro Q s; rfl
  | cons p P ih => intro Q s; exact ih Q _
def yal (r : Nat) (P : List Nat) : Prop := ∀ p, p ∈ P → r ≤ p ∧ p < 30
theorem yal_ap {r : Nat} {P Q : List Nat} (h1 : yal r P) (h2 : yal r Q) : yal r (P ++ Q) := fun p hp => by
  rcases List.mem_append.mp hp with h | h
  · exact h1 p h
  · exact h2 p h
theorem yal_1 {r p : Nat} (h : r ≤ p) (h2 : p < 30) : yal r [p] := fun q hq => by
  have := List.mem_singleton.mp hq
  subst this
  exact ⟨h, h2⟩
theorem yal_mo {r q : Nat} {P : List Nat} (h : r ≤ q) (h2 : yal q P) : yal r P := fun p hp => ⟨Nat.le_trans h (h2 p hp).1, (h2 p hp).2⟩
def ylo (r : Nat) (W : List Nat) : Prop := ytp W = 30 ∨ ytp W < r
theorem ystl_ap {r : Nat} : ∀ (P W : List Nat) (s : PS), yal r P → ystl r (P ++ W) s = ystl r W (yfl P s) := by
  intro P
  induction P with
  | nil => intro W s _; rfl
  | cons p P ih =>
    intro W s h
    have hp := h p (List.mem_cons_self ..)
    show (if p = 30 ∨ p < r then (s, p :: (P ++ W)) else ystl r (P ++ W) (adC (nI (cQ p)) s)) = ystl r W (yfl P (adC (nI (cQ p)) s))
    rw [if_neg (by omega)]
    exact ih W _ (fun q hq => h q (List.mem_cons_of_mem _ hq))
theorem ystl_lo {r : Nat} {W : List Nat} {s : PS} (h : ylo r W) : ystl r W s = (s, W) := by
  cases W with
  | nil => rfl
  | cons a W => exact if_pos h
theorem yop_ap : ∀ (P W : List Nat), yal 0 P → yop (P ++ W) = yop W := by
  intro P
  induction P with
  | nil => intro W _; rfl
  | cons p P ih =>
    intro W h
    have hp := h p (List.mem_cons_self ..)
    show (decide (p = 30) || yop (P ++ W)) = yop W
    rw [ih W (fun q hq => h q (List.mem_cons_of_mem _ hq)), decide_eq_false (by omega), Bool.false_or]
/-- a level, from here -/
def yC (T : TP) (X : PS → PR) (r : Nat) (po : TK → List Nat → Prop) (s : PS) (W : List Nat) (now : Nat) : Prop :=
  (∀ s', X s = .inl s' → s.2.2 < s'.2.2 ∧ s'.2.2 ≤ 30 ∧ ∃ s1 P, yR T (s, W, now) (.inl (s1, P ++ W, 2)) ∧ yfl P s1 = s' ∧ yal r P ∧ po s'.1 P) ∧ ∀ e, X s = .inr e → yR T (s, W, now) (.inr e)
theorem yC_mo {T : TP} {X : PS → PR} {r q : Nat} {po pq : TK → List Nat → Prop} {s : PS} {W : List Nat} {now : Nat} (hr : r ≤ q) (hp : ∀ k P, yal q P → po k P → pq k P) (h : yC T X q po s W now) : yC T X r pq s W now :=
  ⟨fun s' hs => by
    obtain ⟨h1, h2, s1, P, h3, h4, h5, h6⟩ := h.1 s' hs
    exact ⟨h1, h2, s1, P, h3, h4, yal_mo hr h5, hp _ _ h5 h6⟩, h.2⟩
/-- a level's loop -/
theorem yLp {T : TP} {r nw : Nat} {test : TK → Bool} {opf : TK → Int32} {X : PS → PR} {po : TK → List Nat → Prop} {W : List Nat} {wo : TK → Nat}
    (hop : ∀ k, test k = true → nI (cQ (wo k)) = opf k ∧ r ≤ wo k ∧ wo k < 30)
    (hst : ∀ s1 P, yal r P → test s1.1 = true → ysgn T s1 (P ++ W) = .inl (nxt T (yfl P s1), wo s1.1 :: W, nw))
    (hpo : ∀ k P p, po k P → po k (P ++ [p]))
    (hX : ∀ k s, test k = true → s.2.2 ≤ 30 → yC T X r po s (wo k :: W) nw) :
    ∀ n s' s1 P, yfl P s1 = s' → yal r P → 31 ≤ n + s'.2.2 → s'.2.2 ≤ 30 → po s'.1 P →
      (∀ s2, pLp T test opf X n s' = .inl s2 → s'.2.2 ≤ s2.2.2 ∧ s2.2.2 ≤ 30 ∧ ∃ s3 Q, yR T (s1, P ++ W, 2) (.inl (s3, Q ++ W, 2)) ∧ yfl Q s3 = s2 ∧ yal r Q ∧ po s2.1 Q ∧ ¬ test s2.1 = true) ∧ ∀ e, pLp T test opf X n s' = .inr e → yR T (s1, P ++ W, 2) (.inr e) := by
  intro n
  induction n with
  | zero => intro s' s1 P _ _ h3 h4 _; omega
  | succ n ih =>
    intro s' s1 P h1 h2 h3 h4 h5
    simp only [pLp]
    by_cases ht : test s'.1 = true
    · rw [if_pos ht]
      have e1 : s1.1 = s'.1 := by rw [← h1]; exact (yfl_1 P s1).1.symm
      have hs := hst s1 P h2 (by rw [e1]; exact ht)
      rw [h1, e1] at hs
      have hr := yR_s hs
      have hx := hX s'.1 (nxt T s') ht h4
      obtain ⟨o1, o2, o3⟩ := hop s'.1 ht
      cases hv : X (nxt T s') with
      | inr e =>
        refine ⟨fun s2 z => (by simp only [pb] at z; cases z), fun e2 z => ?_⟩
        simp only [pb] at z
        cases z
        exact yR_tr hr (hx.2 _ hv)
      | inl s3 =>
        simp only [pb]
        obtain ⟨g1, g2, s4, Q, g3, g4, g5, g6⟩ := hx.1 s3 hv
        have g1' : s'.2.2 < s3.2.2 := g1
        have hr2 := yR_tr hr g3
        have el : Q ++ wo s'.1 :: W = (Q ++ [wo s'.1]) ++ W := by simp
        rw [el] at hr2
        have := ih (adC (opf s'.1) s3) s4 (Q ++ [wo s'.1]) (by rw [yfl_ap, g4]; show adC (nI (cQ (wo s'.1))) s3 = _; rw [o1]) (yal_ap g5 (yal_1 o2 o3)) (by show 31 ≤ n + s3.2.2; omega) g2 (hpo _ _ _ g6)
        refine ⟨fun s2 z => ?_, fun e z => yR_tr hr2 (this.2 e z)⟩
        obtain ⟨q1, q2, s5, Q5, q3, q4, q5, q6, q7⟩ := this.1 s2 z
        have q1' : s3.2.2 ≤ s2.2.2 := q1
        exact ⟨by omega, q2, s5, Q5, yR_tr hr2 q3, q4, q5, q6, q7⟩
    · rw [if_neg ht]
      refine ⟨fun s2 z => ?_, fun e z => (by cases z)⟩
      cases z
      exact ⟨Nat.le_refl _, h4, s1, P, yR_rf, h1, h2, h5, ht⟩
/-- a level with its loop -/
theorem yLv {T : TP} {r nw now : Nat} {test : TK → Bool} {opf : TK → Int32} {X : PS → PR} {po : TK → List Nat → Prop} {W : List Nat} {wo : TK → Nat} {s : PS}
    (hop : ∀ k, test k = true → nI (cQ (wo k)) = opf k ∧ r ≤ wo k ∧ wo k < 30)
    (hst : ∀ s1 P, yal r P → test s1.1 = true → ysgn T s1 (P ++ W) = .inl (nxt T (yfl P s1), wo s1.1 :: W, nw))
    (hpo : ∀ k P p, po k P → po k (P ++ [p]))
    (hX : ∀ k s, test k = true → s.2.2 ≤ 30 → yC T X r po s (wo k :: W) nw) (h0 : yC T X r po s W now) :
    yC T (fun s => pb (X s) (pLp T test opf X 30)) r (fun k P => po k P ∧ ¬ test k = true) s W now := by
  cases hv : X s with
  | inr e =>
    refine ⟨fun s2 z => (by simp only [hv, pb] at z; cases z), fun e2 z => ?_⟩
    simp only [hv, pb] at z
    cases z
    exact h0.2 _ hv
  | inl s' =>
    obtain ⟨g1, g2, s1, P, g3, g4, g5, g6⟩ := h0.1 s' hv
    have := yLp hop hst hpo hX 30 s' s1 P g4 g5 (by omega) g2 g6
    refine ⟨fun s2 z => ?_, fun e z => ?_⟩
    · simp only [hv, pb] at z
      obtain ⟨q1, q2, s5, Q5, q3, q4, q5, q6, q7⟩ := this.1 s2 z
      exact ⟨by omega, q2, s5, Q5, yR_tr g3 q3, q4, q5, q6, q7⟩
    · simp only [hv, pb] at z
      exact yR_tr g3 (this.2 e z)
theorem ysg_lo {T : TP} {s1 : PS} {P W : List Nat} {r v nw : Nat} (hv : ywh T s1.1 = v) (h0 : v ≠ 0) (h23 : ¬ yrk v = 23) (hr : yrk v = r) (h41 : ¬ isS T s1.1 41 = true) (hP : yal r P) (hW : ylo r W) (hn : nw = if v ≤ 21 then 0 else 1) : ysgn T s1 (P ++ W) = .inl (nxt T (yfl P s1), v :: W, nw) := by
  unfold ysgn
  rw [if_neg (fun z => h41 z.1), hv, if_neg h0, if_neg h23, hr, ystl_ap P W s1 hP, ystl_lo hW, ← hn]
theorem tSm_i {T : TP} {k : TK} (h : tSm T k = true) : isS T k 43 = true ∨ (¬ isS T k 43 = true ∧ isS T k 45 = true) := by
  unfold tSm at h
  rw [Bool.or_eq_true] at h
  by_cases h1 : isS T k 43 = true
  · exact .inl h1
  · rcases h with h | h
    · exact absurd h h1
    · exact .inr ⟨h1, h⟩
def ypT (T : TP) (k : TK) (_ : List Nat) : Prop := ¬ tTm T k = true
def ypS (T : TP) (k : TK) (_ : List Nat) : Prop := ¬ tTm T k = true ∧ ¬ tSm T k = true
def yrl (P : List Nat) : Prop := ∃ P1 x P2, P = P1 ++ x :: P2 ∧ yal 26 P1 ∧ yrk x = 23
def ypO (T : TP) (k : TK) (P : List Nat) : Prop := ¬ tTm T k = true ∧ ¬ tSm T k = true ∧ (rlH T k = -1 ∨ yrl P)
def yst0 (T : TP) (s : PS) (now : Nat) : Prop := now = 1 ∨ (now = 0 ∧ ¬ isWd T s.1 13 = true)
theorem yrl_ap {P Q : List Nat} (h : yrl P) : yrl (P ++ Q) := by
  obtain ⟨P1, x, P2, h1, h2, h3⟩ := h
  exact ⟨P1, x, P2 ++ Q, by rw [h1]; simp, h2, h3⟩
theorem ypO_ap {T : TP} {k : TK} {P Q : List Nat} (h : ypO T k P) : ypO T k (P ++ Q) := ⟨h.1, h.2.1, h.2.2.imp id yrl_ap⟩
/-- a term, a sum -/
theorem yT {T : TP} {U : PS → PR} {W : List Nat} (hU : ∀ s W' now, s.2.2 ≤ 30 → yst0 T s now → ynd W' = ynd W → yC T U 28 (fun _ _ => True) s W' now) (s : PS) (now : Nat) (hu : s.2.2 ≤ 30) (h0 : yst0 T s now) (hW : ylo 28 W) : yC T (pT T U) 28 (ypT T) s W now := by
  refine yC_mo (Nat.le_refl _) (fun k P _ h => h.2) (yLv (r := 28) (nw := 1) (test := tTm T) (opf := fun _ => 20008) (X := U) (po := fun _ _ => True) (wo := fun _ => 28) (fun k _ => ⟨rfl, by omega, by omega⟩) (fun s1 P hP ht => ?_) (fun _ _ _ _ => trivial) (fun k s2 _ h2 => hU s2 _ 1 h2 (.inl rfl) (by simp [ynd])) (hU s W now hu h0 rfl))
  have h42 : isS T s1.1 42 = true := ht
  exact ysg_lo (by unfold ywh; rw [if_neg (isS_u h42 (by decide)), if_neg (isS_u h42 (by decide)), if_pos h42]) (by decide) (by decide) rfl (isS_u h42 (by decide)) hP hW rfl
theorem yS {T : TP} {U : PS → PR} {W : List Nat} (hU : ∀ s W' now, s.2.2 ≤ 30 → yst0 T s now → ynd W' = ynd W → yC T U 28 (fun _ _ => True) s W' now) (s : PS) (now : Nat) (hu : s.2.2 ≤ 30) (h0 : yst0 T s now) (hW : ylo 26 W) : yC T (pS T U) 26 (ypS T) s W now := by
  have hw : ∀ k, tSm T k = true → (if isS T k 43 = true then 26 else 27) = ywh T k ∧ nI (cQ (if isS T k 43 = true then 26 else 27)) = oSm T k := fun k hk => by
    rcases tSm_i hk with h | ⟨h1, h⟩
    · simp only [ywh, oSm, h, if_true]; exact ⟨trivial, rfl⟩
    · simp only [ywh, oSm, h, h1, if_true]; exact ⟨by simp, rfl⟩
  have h26 : ∀ k : TK, (if isS T k 43 = true then 26 else 27) = 26 ∨ (if isS T k 43 = true then 26 else 27) = 27 := fun k => by split <;> simp
  refine yLv (r := 26) (nw := 1) (test := tSm T) (opf := oSm T) (X := pT T U) (po := ypT T) (wo := fun k => if isS T k 43 = true then 26 else 27) (fun k hk => ⟨(hw k hk).2, ?_⟩) (fun s1 P hP ht => ?_) (fun _ _ _ h => h) (fun k s2 _ h2 => ?_) ?_
  · have := h26 k; omega
  · have hn := (hw s1.1 ht).1
    have h41 : ¬ isS T s1.1 41 = true := by
      rcases tSm_i ht with h | ⟨_, h⟩
      · exact isS_u h (by decide)
      · exact isS_u h (by decide)
    rcases h26 s1.1 with e | e
    · rw [e] at hn; simp only [e]; exact ysg_lo hn.symm (by decide) (by decide) rfl h41 hP hW rfl
    · rw [e] at hn; simp only [e]; exact ysg_lo hn.symm (by decide) (by decide) rfl h41 hP hW rfl
  · have hlo : ylo 28 ((if isS T k 43 = true then 26 else 27) :: W) := .inr (by show (if isS T k 43 = true then 26 else 27) < 28; have := h26 k; omega)
    have hnd : ynd ((if isS T k 43 = true then 26 else 27) :: W) = ynd W := by rcases h26 k with e | e <;> rw [e] <;> simp [ynd]
    exact yC_mo (by omega) (fun _ _ _ h => h) (yT (fun s3 W' n h3 h4 h5 => hU s3 W' n h3 h4 (h5.trans hnd)) s2 1 h2 (.inl rfl) hlo)
  · exact yC_mo (by omega) (fun _ _ _ h => h) (yT hU s now hu h0 (hW.imp id (fun h => by omega)))
theorem rl_wh {T : TP} {k : TK} (h : ¬ rlH T k = -1) : rlH T k = nI (cQ (ywh T k)) ∧ yrk (ywh T k) = 23 ∧ ywh T k ≠ 0 ∧ 23 ≤ ywh T k ∧ ywh T k ≤ 25 ∧ ¬ isS T k 41 = true := by
  unfold rlH at h ⊢
  by_cases h60 : isS T k 60 = true
  · have e : ywh T k = 24 := by unfold ywh; rw [if_neg (isS_u h60 (by decide)), if_neg (isS_u h60 (by decide)), if_neg (isS_u h60 (by decide)), if_neg (isS_u h60 (by decide)), if_pos h60]
    rw [e, if_pos h60]; exact ⟨rfl, rfl, by decide, by decide, by decide, isS_u h60 (by decide)⟩
  · rw [if_neg h60] at h ⊢
    by_cases h62 : isS T k 62 = true
    · have e : ywh T k = 25 := by unfold ywh; rw [if_neg (isS_u h62 (by decide)), if_neg (isS_u h62 (by decide)), if_neg (isS_u h62 (by decide)), if_neg (isS_u h62 (by decide)), if_neg h60, if_pos h62]
      rw [e, if_pos h62]; exact ⟨rfl, rfl, by decide, by decide, by decide, isS_u h62 (by decide)⟩
    · rw [if_neg h62] at h ⊢
      by_cases h61 : isS T k 61 = true
      · have e : ywh T k = 23 := by unfold ywh; rw [if_neg (isS_u h61 (by decide)), if_neg (isS_u h61 (by decide)), if_neg (isS_u h61 (by decide)), if_pos h61]
        rw [e, if_pos h61]; exact ⟨rfl, rfl, by decide, by decide, by decide, isS_u h61 (by decide)⟩
      · rw [if_neg h61] at h; exact absurd rfl h
theorem ylo_rk {W : List Nat} (h : ylo 23 W) : ¬ yrk (ytp W) = 23 := by
  unfold yrk
  rcases h with h | h
  · rw [h]; decide
  · split
    · decide
    · split <;> omega
/-- one: no not -/
theorem yO1 {T : TP} {U : PS → PR} {W : List Nat} (hU : ∀ s W' now, s.2.2 ≤ 30 → yst0 T s now → ynd W' = ynd W → yC T U 28 (fun _ _ => True) s W' now) (s : PS) (hu : s.2.2 ≤ 30) (hn : ¬ isWd T s.1 13 = true) (hW : ylo 23 W) : yC T (fun s => pb (pS T U s) (fun s' => if rlH T s'.1 = -1 then .inl s' else pb (pS T U (nxt T s')) (fun s2 => .inl (adC (rlH T s'.1) s2)))) 22 (ypO T) s W 0 := by
  have h0 := yS hU s 0 hu (.inr ⟨rfl, hn⟩) (hW.imp id (fun h => by omega))
  cases hv : pS T U s with
  | inr e =>
    refine ⟨fun s2 z => (by simp only [hv, pb] at z; cases z), fun e2 z => ?_⟩
    simp only [hv, pb] at z
    cases z
    exact h0.2 _ hv
  | inl s' =>
    obtain ⟨g1, g2, s1, P, g3, g4, g5, g6⟩ := h0.1 s' hv
    by_cases hrl : rlH T s'.1 = -1
    · refine ⟨fun s2 z => ?_, fun e2 z => (by simp only [hv, pb, hrl, if_true] at z; cases z)⟩
      simp only [hv, pb, hrl, if_true] at z
      cases z
      exact ⟨g1, g2, s1, P, g3, g4, yal_mo (by omega) g5, g6.1, g6.2, .inl hrl⟩
    · obtain ⟨w1, w2, w3, w4, w5, w6⟩ := rl_wh hrl
      have e1 : s1.1 = s'.1 := by rw [← g4]; exact (yfl_1 P s1).1.symm
      have hst : ysgn T s1 (P ++ W) = .inl (nxt T s', ywh T s'.1 :: W, 1) := by
        unfold ysgn
        rw [e1, if_neg (fun z => w6 z.1), if_neg w3, if_pos w2, ystl_ap P W s1 g5, ystl_lo (hW.imp id (fun h => by omega)), if_neg (ylo_rk hW), g4]
      have hr := yR_tr g3 (yR_s hst)
      have hnd : ynd (ywh T s'.1 :: W) = ynd W := by
        simp only [ynd]; rw [if_neg (by omega), Nat.zero_add]
      have h2 := yS (W := ywh T s'.1 :: W) (fun s3 W' n h3 h4 h5 => hU s3 W' n h3 h4 (h5.trans hnd)) (nxt T s') 1 g2 (.inl rfl) (.inr (by show ywh T s'.1 < 26; omega))
      cases hv2 : pS T U (nxt T s') with
      | inr e =>
        refine ⟨fun s2 z => (by simp only [hv, pb, hrl, if_false, hv2] at z; cases z), fun e2 z => ?_⟩
        simp only [hv, pb, hrl, if_false, hv2] at z
        cases z
        exact yR_tr hr (h2.2 _ hv2)
      | inl s3 =>
        refine ⟨fun s2 z => ?_, fun e2 z => (by simp only [hv, pb, hrl, if_false, hv2] at z; cases z)⟩
        simp only [hv, pb, hrl, if_false, hv2] at z
        cases z
        obtain ⟨k1, k2, s4, Q, k3, k4, k5, k6⟩ := h2.1 s3 hv2
        have k1' : s'.2.2 < s3.2.2 := k1
        refine ⟨by show s.2.2 < s3.2.2; omega, k2, s4, Q ++ [ywh T s'.1], ?_, ?_, yal_ap (yal_mo (by omega) k5) (yal_1 (by omega) (by omega)), k6.1, k6.2, .inr ⟨Q, _, [], rfl, k5, w2⟩⟩
        · have el : Q ++ ywh T s'.1 :: W = (Q ++ [ywh T s'.1]) ++ W := by simp
          rw [← el]
          exact yR_tr hr k3
        · rw [yfl_ap, k4, w1]; rfl
/-- one; both; either: at a level with f more -/
def yLE (T : TP) (E O : PS → PR) (f : Nat) : Prop := (∀ s W, s.2.2 ≤ 30 → ynd W + f = 7 → ylo 23 W → yC T O 22 (ypO T) s W 0) ∧ ∀ s W, s.2.2 ≤ 30 → ynd W + f = 7 → ylo 20 W → yC T E 20 (fun k P => (ypO T k P ∧ ¬ isWd T k 20 = true) ∧ ¬ isWd T k 21 = true) s W 0
theorem ao_ne {T : TP} {k : TK} (h : isWd T k 21 = true) : ¬ isWd T k 20 = true := fun h2 => by
  unfold isWd at h h2
  rw [Bool.and_eq_true, decide_eq_true_iff] at h h2
  have e : wr_sl.getD 21 0 = wr_sl.getD 20 0 := h.1.2.symm.trans h2.1.2
  exact absurd e (by decide)
theorem yE_O {T : TP} {O : PS → PR} {f : Nat} (hO : ∀ s W, s.2.2 ≤ 30 → ynd W + f = 7 → ylo 23 W → yC T O 22 (ypO T) s W 0) : yLE T (pE T O) O f := by
  refine ⟨hO, fun s W hu hnd hW => ?_⟩
  have wA : ∀ k, isWd T k 20 = true → ywh T k = 21 := fun k hk => by
    unfold ywh
    rw [if_neg (isW_s hk), if_neg (isW_s hk), if_neg (isW_s hk), if_neg (isW_s hk), if_neg (isW_s hk), if_neg (isW_s hk), if_pos hk]
  have wO : ∀ k, isWd T k 21 = true → ywh T k = 20 := fun k hk => by
    unfold ywh
    rw [if_neg (isW_s hk), if_neg (isW_s hk), if_neg (isW_s hk), if_neg (isW_s hk), if_neg (isW_s hk), if_neg (isW_s hk), if_neg (ao_ne hk), if_pos hk]
  have hB : ∀ s W, s.2.2 ≤ 30 → ynd W + f = 7 → ylo 21 W → yC T (pB T O) 21 (fun k P => ypO T k P ∧ ¬ isWd T k 20 = true) s W 0 := by
    intro s W hu hnd hW
    refine yLv (r := 21) (nw := 0) (test := fun k => isWd T k 20) (opf := fun _ => 20001) (X := O) (po := ypO T) (wo := fun _ => 21) (fun k _ => ⟨rfl, by omega, by omega⟩) (fun s1 P hP ht => ?_) (fun _ _ _ h => ypO_ap h) (fun k s2 _ h2 => ?_) ?_
    · exact ysg_lo (wA _ ht) (by decide) (by decide) rfl (isW_s ht) hP hW rfl
    · exact yC_mo (by omega) (fun _ _ _ h => h) (hO s2 (21 :: W) h2 (by simp only [ynd]; simpa using hnd) (.inr (by show 21 < 23; omega)))
    · exact yC_mo (by omega) (fun _ _ _ h => h) (hO s W hu hnd (hW.imp id (fun h => by omega)))
  refine yLv (r := 20) (nw := 0) (test := fun k => isWd T k 21) (opf := fun _ => 20002) (X := pB T O) (po := fun k P => ypO T k P ∧ ¬ isWd T k 20 = true) (wo := fun _ => 20) (fun k _ => ⟨rfl, by omega, by omega⟩) (fun s1 P hP ht => ?_) (fun _ _ _ h => ⟨ypO_ap h.1, h.2⟩) (fun k s2 _ h2 => ?_) ?_
  · exact ysg_lo (wO _ ht) (by decide) (by decide) rfl (isW_s ht) hP hW rfl
  · exact yC_mo (by omega) (fun _ _ _ h => h) (hB s2 (20 :: W) h2 (by simp only [ynd]; simpa using hnd) (.inr (by show 20 < 21; omega)))
  · exact yC_mo (by omega) (fun _ _ _ h => h) (hB s W hu hnd (hW.imp id (fun h => by omega)))
/-- what does not go on is refused -/
theorem yno {T : TP} {s1 : PS} {P W : List Nat} {E : PS} (h1 : yfl P s1 = E) (hp : (ypO T E.1 P ∧ ¬ isWd T E.1 20 = true) ∧ ¬ isWd T E.1 21 = true) (h41 : ¬ (isS T E.1 41 = true ∧ yop (P ++ W) = true)) : ysgn T s1 (P ++ W) = .inr (rfF E.1, E.1.2.1) := by
  have e1 : s1.1 = E.1 := by rw [← h1]; exact (yfl_1 P s1).1.symm
  obtain ⟨⟨⟨p1, p2, p3⟩, p4⟩, p5⟩ := hp
  unfold ysgn
  rw [e1, if_neg h41]
  by_cases hrl : rlH T E.1 = -1
  · have e : ywh T E.1 = 0 := by
      unfold tTm at p1
      unfold tSm at p2
      rw [Bool.or_eq_true, not_or] at p2
      unfold rlH at hrl
      have q1 : ¬ isS T E.1 60 = true := fun z => by rw [if_pos z] at hrl; exact absurd hrl (by decide)
      rw [if_neg q1] at hrl
      have q2 : ¬ isS T E.1 62 = true := fun z => by rw [if_pos z] at hrl; exact absurd hrl (by decide)
      rw [if_neg q2] at hrl
      have q3 : ¬ isS T E.1 61 = true := fun z => by rw [if_pos z] at hrl; exact absurd hrl (by decide)
      unfold ywh
      rw [if_neg p2.1, if_neg p2.2, if_neg p1, if_neg q3, if_neg q1, if_neg q2, if_neg p4, if_neg p5]
    rw [if_pos e]
    unfold yrf
    rw [e1]
  · obtain ⟨w1, w2, w3, w4, w5, w6⟩ := rl_wh hrl
    obtain ⟨P1, x, P2, g1, g2, g3⟩ := p3.resolve_left hrl
    have hlo : ylo 26 (x :: P2 ++ W) := by
      refine .inr ?_
      show x < 26
      unfold yrk at g3
      split at g3
      · omega
      · split at g3 <;> omega
    rw [if_neg w3, if_pos w2, g1, List.append_assoc, ystl_ap P1 _ s1 g2, ystl_lo hlo, if_pos (show yrk (ytp (yfl P1 s1, x :: P2 ++ W).2) = 23 from g3)]
    unfold yrf
    rw [e1]
/-- a unit, at a level -/
theorem yU {T : TP} {f : Nat} {inn : PS → PR} {W0 : List Nat} (hW0 : ynd W0 + f = 7) (hin : ∀ s W now, now ≠ 2 → s.2.2 < 30 → isS T s.1 40 = true → ynd W + f = 7 → yC T inn 28 (fun _ _ => True) s W now) (s : PS) (W : List Nat) (now : Nat) (hu : s.2.2 ≤ 30) (h0 : yst0 T s now) (hnd : ynd W = ynd W0) : yC T (pU T inn) 28 (fun _ _ => True) s W now := by
  have hn2 : now ≠ 2 := by rcases h0 with h | h <;> omega
  have hnn : ¬ (now = 0 ∧ isWd T s.1 13 = true) := by
    rcases h0 with h | h
    · omega
    · exact fun z => h.2 z.2
  unfold yC pU
  by_cases h30 : 30 ≤ s.2.2
  · simp only [if_pos h30]
    refine ⟨fun s' z => (by cases z), fun e z => ?_⟩
    cases z
    exact yR_o hn2 (by unfold yopd; rw [if_neg hnn, if_pos h30]; rfl)
  · simp only [if_neg h30]
    by_cases h40 : isS T s.1 40 = true
    · simp only [if_pos h40]
      exact hin s W now hn2 (by omega) h40 (by omega)
    · simp only [if_neg h40]
      by_cases hno : s.1.1 ≠ 2 ∧ lkH T s.1 = -1
      · simp only [if_pos hno]
        refine ⟨fun s' z => (by cases z), fun e z => ?_⟩
        cases z
        exact yR_o hn2 (by unfold yopd; rw [if_neg hnn, if_neg h30, if_neg h40, if_pos hno]; rfl)
      · simp only [if_neg hno]
        refine ⟨fun s' z => ?_, fun e z => (by cases z)⟩
        cases z
        refine ⟨by show s.2.2 < s.2.2 + 1; omega, by show s.2.2 + 1 ≤ 30; omega, nxt T (yun T s), [], yR_o hn2 (by unfold yopd; rw [if_neg hnn, if_neg h30, if_neg h40, if_neg hno]; rfl), rfl, fun p hp => (by cases hp), trivial⟩
theorem yall {T : TP} : ∀ f, f ≤ 7 → yLE T (pEO T f).1 (pEO T f).2 f := by
  have mk : ∀ (f : Nat) (inn inO : PS → PR), (∀ s W now, now ≠ 2 → s.2.2 < 30 → ¬ (now = 0 ∧ isWd T s.1 13 = true) → isS T s.1 40 = true → ynd W + f = 7 → yC T inn 28 (fun _ _ => True) s W now) → (∀ s W, s.2.2 ≤ 30 → isWd T s.1 13 = true → ynd W + f = 7 → ylo 23 W → yC T inO 22 (ypO T) s W 0) → yLE T (pE T (pO T (pU T inn) inO)) (pO T (pU T inn) inO) f := by
    intro f inn inO h1 h2
    refine yE_O (fun s W hu hnd hW => ?_)
    by_cases hw : isWd T s.1 13 = true
    · have := h2 s W hu hw hnd hW
      unfold yC at this ⊢
      unfold pO
      simp only [if_pos hw]
      exact this
    · have := yO1 (U := pU T inn) (fun s3 W' n h3 h4 h5 => yU hnd (fun s4 W4 n4 q1 q2 q3 q4 => h1 s4 W4 n4 q1 q2 (fun z => isS_w q3 z.2) q3 q4) s3 W' n h3 h4 h5) s hu hw hW
      unfold yC at this ⊢
      unfold pO
      simp only [if_neg hw]
      exact this
  intro f
  induction f with
  | zero =>
    intro _
    refine mk 0 rfR rfR (fun s W now hn hu hnn h40 hnd => ⟨fun s' z => (by cases z), fun e z => ?_⟩) (fun s W hu hw hnd hW => ⟨fun s' z => (by cases z), fun e z => ?_⟩)
    · cases z
      exact yR_o hn (by unfold yopd; rw [if_neg hnn, if_neg (by omega), if_pos h40, if_pos (by omega)]; rfl)
    · cases z
      exact yR_o (by omega) (by unfold yopd; rw [if_pos ⟨rfl, hw⟩, if_pos (by omega)]; rfl)
  | succ f ih =>
    intro hf
    obtain ⟨iO, iE⟩ := ih (by omega)
    refine mk (f + 1) (pNest T (pEO T f).1) (pNot T (pEO T f).2) (fun s W now hn hu hnn h40 hnd => ?_) (fun s W hu hw hnd hW => ?_)
    · have hst : yR T (s, W, now) (.inl (nxt T (unC s), 30 :: W, 0)) := yR_o hn (by unfold yopd; rw [if_neg hnn, if_neg (by omega), if_pos h40, if_neg (by omega)])
      have hE := iE (nxt T (unC s)) (30 :: W) (by show s.2.2 + 1 ≤ 30; omega) (by simp [ynd]; omega) (.inl rfl)
      unfold yC pNest
      cases hv : (pEO T f).1 (nxt T (unC s)) with
      | inr e =>
        refine ⟨fun s2 z => (by simp only [pb] at z; cases z), fun e2 z => ?_⟩
        simp only [pb] at z
        cases z
        exact yR_tr hst (hE.2 _ hv)
      | inl s' =>
        obtain ⟨g1, g2, s1, P, g3, g4, g5, g6⟩ := hE.1 s' hv
        have g1' : s.2.2 + 1 < s'.2.2 := g1
        have hr := yR_tr hst g3
        have e1 : s1.1 = s'.1 := by rw [← g4]; exact (yfl_1 P s1).1.symm
        have hop : yop (P ++ 30 :: W) = true := by rw [yop_ap P _ (yal_mo (by omega) g5)]; rfl
        by_cases hc : isS T s'.1 41 = true
        · simp only [pb, if_pos hc]
          refine ⟨fun s2 z => ?_, fun e z => (by cases z)⟩
          cases z
          refine ⟨by show s.2.2 < s'.2.2; omega, g2, nxt T s', [], yR_tr hr (yR_s ?_), rfl, fun p hp => (by cases hp), trivial⟩
          unfold ysgn
          rw [e1, if_pos ⟨hc, hop⟩, ystl_ap P _ s1 (yal_mo (by omega) g5), ystl_lo (.inl rfl), g4]
          rfl
        · simp only [pb, if_neg hc]
          refine ⟨fun s2 z => (by cases z), fun e z => ?_⟩
          cases z
          refine yR_tr hr (yR_f (fun z => ?_) (yno g4 g6 (fun z => hc z.1)))
          have := z.2.2
          rw [show yop (P ++ 30 :: W) = true from hop] at this
          cases this
    · have hst : yR T (s, W, 0) (.inl (nxt T s, 22 :: W, 0)) := yR_o (by omega) (by unfold yopd; rw [if_pos ⟨rfl, hw⟩, if_neg (by omega)])
      have hO := iO (nxt T s) (22 :: W) hu (by simp [ynd]; omega) (.inr (by show 22 < 23; omega))
      unfold yC pNot
      cases hv : (pEO T f).2 (nxt T s) with
      | inr e =>
        refine ⟨fun s2 z => (by simp only [pb] at z; cases z), fun e2 z => ?_⟩
        simp only [pb] at z
        cases z
        exact yR_tr hst (hO.2 _ hv)
      | inl s' =>
        obtain ⟨g1, g2, s1, P, g3, g4, g5, g6⟩ := hO.1 s' hv
        simp only [pb]
        refine ⟨fun s2 z => ?_, fun e z => (by cases z)⟩
        cases z
        refine ⟨g1, g2, s1, P ++ [22], ?_, ?_, yal_ap g5 (yal_1 (by omega) (by omega)), ypO_ap g6⟩
        · have el : P ++ 22 :: W = (P ++ [22]) ++ W := by simp
          rw [← el]
          exact yR_tr hst g3
        · rw [yfl_ap, g4]; rfl
/-- a whole law -/
theorem ylaw {T : TP} (s : PS) (hu : s.2.2 ≤ 30) : (∀ s', (pEO T 7).1 s = .inl s' → s'.2.2 ≤ 30 ∧ (isS T s'.1 59 = true → ∃ s1 P, yR T (s, [], 0) (.inl (s1, P, 2)) ∧ yfin T (s1, P, 2) ∧ ystl 0 P s1 = (s', [])) ∧ (¬ isS T s'.1 59 = true → yR T (s, [], 0) (.inr (rfF s'.1, s'.1.2.1)))) ∧ ∀ e, (pEO T 7).1 s = .inr e → yR T (s, [], 0) (.inr e) := by
  have h := (yall (T := T) 7 (by omega)).2 s [] hu rfl (.inl rfl)
  refine ⟨fun s' hs => ?_, h.2⟩
  obtain ⟨g1, g2, s1, P, g3, g4, g5, g6⟩ := h.1 s' hs
  have e1 : s1.1 = s'.1 := by rw [← g4]; exact (yfl_1 P s1).1.symm
  have hop : yop (P ++ []) = false := by rw [yop_ap P _ (yal_mo (by omega) g5)]; rfl
  refine ⟨g2, fun h59 => ?_, fun h59 => ?_⟩
  · rw [List.append_nil] at g3 hop
    refine ⟨s1, P, g3, ⟨rfl, by rw [e1]; exact h59, hop⟩, ?_⟩
    have := ystl_ap (r := 0) P [] s1 (yal_mo (by omega) g5)
    rw [List.append_nil] at this
    rw [this, g4]; rfl
  · refine yR_tr g3 (yR_f (fun z => h59 (by rw [← e1]; exact z.2.1)) (yno g4 g6 (fun z => ?_)))
    rw [hop] at z
    exact absurd z.2 (by decide)
