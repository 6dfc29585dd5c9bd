/-! odds -/
def chF (sh : Nat) : Nat → Nat → Nat
  | 0, i => if i = 0 then 1 else 0
  | c + 1, i => chF sh c i * sh + (if 0 < i then chF sh c (i - 1) else 0) * (10 - sh)
def suF (sh c m : Nat) : Nat → Nat
  | 0 => 0
  | k + 1 => suF sh c m k + (if m ≤ k then chF sh c k else 0)
theorem suF_0 {sh c m : Nat} : ∀ k, suF sh c m k ≤ suF sh c 0 k := by
  intro k
  induction k with
  | zero => exact Nat.le_refl _
  | succ k ih => simp only [suF]; split <;> simp <;> omega
theorem suF_s {sh c : Nat} : ∀ k, suF sh (c + 1) 0 (k + 1) = suF sh c 0 (k + 1) * sh + suF sh c 0 k * (10 - sh) := by
  intro k
  induction k with
  | zero => simp [suF, chF]
  | succ k ih =>
    rw [suF, ih]
    simp only [suF, chF, Nat.zero_le, if_true, Nat.succ_pos, Nat.add_sub_cancel]
    simp only [Nat.add_mul]
    omega
theorem suF_le {sh : Nat} (h : sh ≤ 10) : ∀ c k, suF sh c 0 (k + 1) ≤ 10 ^ c := by
  intro c
  induction c with
  | zero =>
    intro k
    have : ∀ k, suF sh 0 0 (k + 1) = 1 := by
      intro k
      induction k with
      | zero => rfl
      | succ k ih => rw [suF, ih]; simp [chF]
    rw [this]
    exact Nat.le_refl _
  | succ c ih =>
    intro k
    rw [suF_s, Nat.pow_succ]
    have h1 := ih k
    have h2 : suF sh c 0 k ≤ suF sh c 0 (k + 1) := by rw [suF]; omega
    have h3 := Nat.mul_le_mul_right sh h1
    have h4 := Nat.mul_le_mul_right (10 - sh) (Nat.le_trans h2 h1)
    have h5 : 10 ^ c * sh + 10 ^ c * (10 - sh) = 10 ^ c * 10 := by rw [← Nat.mul_add]; congr 1; omega
    omega
def eu : Nat → Nat → Nat → Nat
  | 0, x, _ => x
  | k + 1, x, y => if y = 0 then x else eu k y (x % y)
theorem eu_gcd : ∀ (j k x y : Nat), y < 2 ^ j → 2 * j ≤ k → eu k x y = Nat.gcd x y := by
  intro j
  induction j with
  | zero =>
    intro k x y hy _
    obtain rfl : y = 0 := by simpa using hy
    cases k <;> simp [eu]
  | succ j ih =>
    intro k x y hy hk
    obtain ⟨k, rfl⟩ : ∃ q, k = q + 2 := ⟨k - 2, by omega⟩
    by_cases h0 : y = 0
    · subst h0; simp [eu]
    · simp only [eu]
      rw [if_neg h0]
      have e1 : Nat.gcd x y = Nat.gcd y (x % y) := by rw [Nat.gcd_comm x y, Nat.gcd_rec y x, Nat.gcd_comm]
      by_cases hr : x % y = 0
      · rw [if_pos hr, e1, hr, Nat.gcd_zero_right]
      · rw [if_neg hr]
        have hlt : x % y < y := Nat.mod_lt _ (by omega)
        have h2 : 2 * (y % (x % y)) < y := by
          have a1 := Nat.mod_lt y (show 0 < x % y by omega)
          have a2 := Nat.mod_add_div y (x % y)
          have a3 : 1 ≤ y / (x % y) := Nat.div_pos (by omega) (by omega)
          have a4 := Nat.mul_le_mul_left (x % y) a3
          omega
        rw [ih k _ _ (by rw [Nat.pow_succ] at hy; omega) (by omega), e1]
        rw [Nat.gcd_comm y (x % y), Nat.gcd_rec (x % y) y, Nat.gcd_comm]
def aOdds (sh c : Nat) (m part : Int32) : Int64 := if (0 ≤ m ∧ m ≤ 40) ∧ (0 ≤ part ∧ part ≤ 1) then (if 15 < c then -2 else if part = 0 then lN (suF sh c (tN m) 16 / Nat.gcd (suF sh c (tN m) 16) (10 ^ c)) else lN (10 ^ c / Nat.gcd (suF sh c (tN m) 16) (10 ^ c))) else -1
theorem lN0 {a : Nat} (h : a < 2 ^ 63) : lN a = 0 ↔ a = 0 := pk_lEQ (b := 0) h (by omega)
set_option maxHeartbeats 4000000 in
set_option maxRecDepth 100000 in
theorem cW_gcd {l : Launch} {I : wr_TI} {L : wr_TL} {R : wr_TR} (x0 y0 : Nat) (hx0 : x0 < 2 ^ 63) (hy0 : y0 < 2 ^ 63) : wr_E l 0 mX7_greatestDivisor [.long (lN x0), .long (lN y0)] SH I L R (some (.long (lN (eu 128 x0 y0)))) I L R := by
  have lp : ∀ (k i : Nat) (x y : Nat), i + k = 128 → x < 2 ^ 63 → y < 2 ^ 63 → wr_V l 0 mX7_greatestDivisor 9 [none, none, none, none, some (.long (lN x)), none, some (.long (lN y)), none, some (.int (nI i)), none, none] [] SH I L R 0 0 (fun v s' I' L' R' => v = some (.long (lN (eu k x y))) ∧ s' = SH ∧ I' = I ∧ L' = L ∧ R' = R) := by
    intro k
    induction k with
    | zero =>
      intro i x y hi hx hy
      refine wv_iload dX7_greatestDivisor_9 rfl ?_
      refine wv_sipush (v := 128) dX7_greatestDivisor_11 (by decide) ?_
      refine wv_icmp_ge (tgt := 45) dX7_greatestDivisor_14 (by decide) (fun h14 => ?_) (fun h14 => absurd (nI_le (a := 128) (by omega) (by omega)) h14)
      refine wv_lload dX7_greatestDivisor_45 rfl ?_
      refine wv_lret rfl dX7_greatestDivisor_47 ?_
      exact ⟨rfl, rfl, rfl, rfl, rfl⟩
    | succ k ih =>
      intro i x y hi hx hy
      refine wv_iload dX7_greatestDivisor_9 rfl ?_
      refine wv_sipush (v := 128) dX7_greatestDivisor_11 (by decide) ?_
      refine wv_icmp_ge (tgt := 45) dX7_greatestDivisor_14 (by decide) (fun h14 => absurd h14 (nI_ge (b := 128) (by omega) (by omega))) (fun h14 => ?_)
      refine wv_lload dX7_greatestDivisor_17 rfl ?_
      refine wv_lconst (v := 0) dX7_greatestDivisor_19 (by decide) ?_
      refine wv_lcmp dX7_greatestDivisor_20 ?_
      refine wv_if_eq (tgt := 45) dX7_greatestDivisor_21 (by decide) (fun h21 => ?_) (fun h21 => ?_)
      · rw [lg_cmp_eq, lN0 hy] at h21
        refine wv_lload dX7_greatestDivisor_45 rfl ?_
        refine wv_lret rfl dX7_greatestDivisor_47 ?_
        refine ⟨?_, rfl, rfl, rfl, rfl⟩
        simp [eu, h21]
      · rw [lg_cmp_eq, lN0 hy] at h21
        refine wv_lload dX7_greatestDivisor_24 rfl ?_
        refine wv_lload dX7_greatestDivisor_26 rfl ?_
        refine wv_lrem dX7_greatestDivisor_28 (fun z => h21 ((lN0 hy).mp z)) ?_
        rw [pk_lRem hx (by omega) hy]
        refine wv_lstore dX7_greatestDivisor_29 (by decide) ?_
        refine wv_lload dX7_greatestDivisor_31 rfl ?_
        refine wv_lstore dX7_greatestDivisor_33 (by decide) ?_
        refine wv_lload dX7_greatestDivisor_35 rfl ?_
        refine wv_lstore dX7_greatestDivisor_37 (by decide) ?_
        refine wv_iinc (v := nI (i + 1)) dX7_greatestDivisor_39 rfl (nI_1 (i)) (by decide) ?_
        refine wv_goto (tgt := 9) dX7_greatestDivisor_42 (by decide) ?_
        have e : eu (k + 1) x y = eu k y (x % y) := by simp [eu, h21]
        rw [e]
        exact wv_le (by simp [wr_leq, wr_s1, wr_s2, wr_wide]) (ih (i + 1) y (x % y) (by omega) hy (Nat.lt_of_le_of_lt (Nat.mod_le _ _) hx))
  refine wv_pad 7 ?_
  show wr_V l 0 mX7_greatestDivisor 0 [some (.long (lN x0)), none, some (.long (lN y0)), none, none, none, none, none, none, none, none] [] SH I L R 0 0 _
  refine wv_lload_n dX7_greatestDivisor_0 rfl ?_
  refine wv_lstore dX7_greatestDivisor_1 (by decide) ?_
  refine wv_lload_n dX7_greatestDivisor_3 rfl ?_
  refine wv_lstore dX7_greatestDivisor_4 (by decide) ?_
  refine wv_iconst (v := nI 0) dX7_greatestDivisor_6 rfl ?_
  refine wv_istore dX7_greatestDivisor_7 (by decide) ?_
  exact wv_le (by simp [wr_leq, wr_s1, wr_s2, wr_wide]) (lp 128 0 x0 y0 (by omega) hx0 hy0)

