/-! odds -/
def chF (sh : Nat) : Nat → Nat → Nat
  | 0, i => if i = 0 then 1 else 0
  | c + 1, i => chF sh c i * sh + (if 0 < i then chF sh c (i - 1) else 0) * (10 - sh)
def suF (sh c m : Nat) : Nat → Nat
  | 0 => 0
  | k + 1 => suF sh c m k + (if m ≤ k then chF sh c k else 0)
theorem suF_0 {sh c m : Nat} : ∀ k, suF sh c m k ≤ suF sh c 0 k := by
  intro k
  induction k with
  | zero => exact Nat.le_refl _
  | succ k ih => simp only [suF]; split <;> simp <;> omega
theorem suF_s {sh c : Nat} : ∀ k, suF sh (c + 1) 0 (k + 1) = suF sh c 0 (k + 1) * sh + suF sh c 0 k * (10 - sh) := by
  intro k
  induction k with
  | zero => simp [suF, chF]
  | succ k ih =>
    rw [suF, ih]
    simp only [suF, chF, Nat.zero_le, if_true, Nat.succ_pos, Nat.add_sub_cancel]
    simp only [Nat.add_mul]
    omega
theorem suF_le {sh : Nat} (h : sh ≤ 10) : ∀ c k, suF sh c 0 (k + 1) ≤ 10 ^ c := by
  intro c
  induction c with
  | zero =>
    intro k
    have : ∀ k, suF sh 0 0 (k + 1) = 1 := by
      intro k
      induction k with
      | zero => rfl
      | succ k ih => rw [suF, ih]; simp [chF]
    rw [this]
    exact Nat.le_refl _
  | succ c ih =>
    intro k
    rw [suF_s, Nat.pow_succ]
    have h1 := ih k
    have h2 : suF sh c 0 k ≤ suF sh c 0 (k + 1) := by rw [suF]; omega
    have h3 := Nat.mul_le_mul_right sh h1
    have h4 := Nat.mul_le_mul_right (10 - sh) (Nat.le_trans h2 h1)
    have h5 : 10 ^ c * sh + 10 ^ c * (10 - sh) = 10 ^ c * 10 := by rw [← Nat.mul_add]; congr 1; omega
    omega
def eu : Nat → Nat → Nat → Nat
  | 0, x, _ => x
  | k + 1, x, y => if y = 0 then x else eu k y (x % y)
theorem eu_gcd : ∀ (j k x y : Nat), y < 2 ^ j → 2 * j ≤ k → eu k x y = Nat.gcd x y := by
  intro j
  induction j with
  | zero =>
    intro k x y hy _
    obtain rfl : y = 0 := by simpa using hy
    cases k <;> simp [eu]
  | succ j ih =>
    intro k x y hy hk
    obtain ⟨k, rfl⟩ : ∃ q, k = q + 2 := ⟨k - 2, by omega⟩
    by_cases h0 : y = 0
    · subst h0; simp [eu]
    · simp only [eu]
      rw [if_neg h0]
      have e1 : Nat.gcd x y = Nat.gcd y (x % y) := by rw [Nat.gcd_comm x y, Nat.gcd_rec y x, Nat.gcd_comm]
      by_cases hr : x % y = 0
      · rw [if_pos hr, e1, hr, Nat.gcd_zero_right]
      · rw [if_neg hr]
        have hlt : x % y < y := Nat.mod_lt _ (by omega)
        have h2 : 2 * (y % (x % y)) < y := by
          have a1 := Nat.mod_lt y (show 0 < x % y by omega)
          have a2 := Nat.mod_add_div y (x % y)
          have a3 : 1 ≤ y / (x % y) := Nat.div_pos (by omega) (by omega)
          have a4 := Nat.mul_le_mul_left (x % y) a3
          omega
        rw [ih k _ _ (by rw [Nat.pow_succ] at hy; omega) (by omega), e1]
        rw [Nat.gcd_comm y (x % y), Nat.gcd_rec (x % y) y, Nat.gcd_comm]
def aOdds (sh c : Nat) (m part : Int32) : Int64 := if (0 ≤ m ∧ m ≤ 40) ∧ (0 ≤ part ∧ part ≤ 1) then (if 15 < c then -2 else if part = 0 then lN (suF sh c (tN m) 16 / Nat.gcd (suF sh c (tN m) 16) (10 ^ c)) else lN (10 ^ c / Nat.gcd (suF sh c (tN m) 16) (10 ^ c))) else -1
theorem lN0 {a : Nat} (h : a < 2 ^ 63) : lN a = 0 ↔ a = 0 := pk_lEQ (b := 0) h (by omega)
set_option maxHeartbeats 4000000 in
set_option maxRecDepth 100000 in
theorem cW_gcd {l : Launch} {I : wr_TI} {L : wr_TL} {R : wr_TR} (x0 y0 : Nat) (hx0 : x0 < 2 ^ 63) (hy0 : y0 < 2 ^ 63) : wr_E l 0 mX7_greatestDivisor [.long (lN x0), .long (lN y0)] SH I L R (some (.long (lN (eu 128 x0 y0)))) I L R := by
  have lp : ∀ (k i : Nat) (x y : Nat), i + k = 128 → x < 2 ^ 63 → y < 2 ^ 63 → wr_V l 0 mX7_greatestDivisor 9 [none, none, none, none, some (.long (lN x)), none, some (.long (lN y)), none, some (.int (nI i)), none, none] [] SH I L R 0 0 (fun v s' I' L' R' => v = some (.long (lN (eu k x y))) ∧ s' = SH ∧ I' = I ∧ L' = L ∧ R' = R) := by
    intro k
    induction k with
    | zero =>
      intro i x y hi hx hy
      refine wv_iload dX7_greatestDivisor_9 rfl ?_
      refine wv_sipush (v := 128) dX7_greatestDivisor_11 (by decide) ?_
      refine wv_icmp_ge (tgt := 45) dX7_greatestDivisor_14 (by decide) (fun h14 => ?_) (fun h14 => absurd (nI_le (a := 128) (by omega) (by omega)) h14)
      refine wv_lload dX7_greatestDivisor_45 rfl ?_
      refine wv_lret rfl dX7_greatestDivisor_47 ?_
      exact ⟨rfl, rfl, rfl, rfl, rfl⟩
    | succ k ih =>
      intro i x y hi hx hy
      refine wv_iload dX7_greatestDivisor_9 rfl ?_
      refine wv_sipush (v := 128) dX7_greatestDivisor_11 (by decide) ?_
      refine wv_icmp_ge (tgt := 45) dX7_greatestDivisor_14 (by decide) (fun h14 => absurd h14 (nI_ge (b := 128) (by omega) (by omega))) (fun h14 => ?_)
      refine wv_lload dX7_greatestDivisor_17 rfl ?_
      refine wv_lconst (v := 0) dX7_greatestDivisor_19 (by decide) ?_
      refine wv_lcmp dX7_greatestDivisor_20 ?_
      refine wv_if_eq (tgt := 45) dX7_greatestDivisor_21 (by decide) (fun h21 => ?_) (fun h21 => ?_)
      · rw [lg_cmp_eq, lN0 hy] at h21
        refine wv_lload dX7_greatestDivisor_45 rfl ?_
        refine wv_lret rfl dX7_greatestDivisor_47 ?_
        refine ⟨?_, rfl, rfl, rfl, rfl⟩
        simp [eu, h21]
      · rw [lg_cmp_eq, lN0 hy] at h21
        refine wv_lload dX7_greatestDivisor_24 rfl ?_
        refine wv_lload dX7_greatestDivisor_26 rfl ?_
        refine wv_lrem dX7_greatestDivisor_28 (fun z => h21 ((lN0 hy).mp z)) ?_
        rw [pk_lRem hx (by omega) hy]
        refine wv_lstore dX7_greatestDivisor_29 (by decide) ?_
        refine wv_lload dX7_greatestDivisor_31 rfl ?_
        refine wv_lstore dX7_greatestDivisor_33 (by decide) ?_
        refine wv_lload dX7_greatestDivisor_35 rfl ?_
        refine wv_lstore dX7_greatestDivisor_37 (by decide) ?_
        refine wv_iinc (v := nI (i + 1)) dX7_greatestDivisor_39 rfl (nI_1 (i)) (by decide) ?_
        refine wv_goto (tgt := 9) dX7_greatestDivisor_42 (by decide) ?_
        have e : eu (k + 1) x y = eu k y (x % y) := by simp [eu, h21]
        rw [e]
        exact wv_le (by simp [wr_leq, wr_s1, wr_s2, wr_wide]) (ih (i + 1) y (x % y) (by omega) hy (Nat.lt_of_le_of_lt (Nat.mod_le _ _) hx))
  refine wv_pad 7 ?_
  show wr_V l 0 mX7_greatestDivisor 0 [some (.long (lN x0)), none, some (.long (lN y0)), none, none, none, none, none, none, none, none] [] SH I L R 0 0 _
  refine wv_lload_n dX7_greatestDivisor_0 rfl ?_
  refine wv_lstore dX7_greatestDivisor_1 (by decide) ?_
  refine wv_lload_n dX7_greatestDivisor_3 rfl ?_
  refine wv_lstore dX7_greatestDivisor_4 (by decide) ?_
  refine wv_iconst (v := nI 0) dX7_greatestDivisor_6 rfl ?_
  refine wv_istore dX7_greatestDivisor_7 (by decide) ?_
  exact wv_le (by simp [wr_leq, wr_s1, wr_s2, wr_wide]) (lp 128 0 x0 y0 (by omega) hx0 hy0)

set_option maxHeartbeats 4000000 in
set_option maxRecDepth 100000 in
theorem cW_chances {l : Launch} {I : wr_TI} {L : wr_TL} {R : wr_TR} (hR : wr_RC R) (t : Nat) (ht : t = 3 ∨ t = 10) (hto : R 0 1 = t + 1) (g : RG) (hV : rgV I L t g) (sh c0 m : Nat) (hsh : gSh g = nI sh) (hs9 : sh ≤ 9) (hc0 : c0 ≤ 15) (hm : m ≤ 40) : wr_P l 0 mX7_chancesOfAtLeast [.ref 0, .int (nI m), .int (nI c0)] SH I L R (fun v s' I' L' R' => v = some (.long (lN (suF sh c0 m 16))) ∧ s' = SH ∧ I' = I ∧ R' = R ∧ ∀ b, b ≠ 39 → L' b = L b) := by
  have hg := isG_of hR ht
  obtain ⟨-, g0, -⟩ := id hg
  have hys : I t 12 = nI sh := by rw [← hsh]; exact hV.2.2.2.2.2.2.2.2.2.2.2.2.2.2.2.2.2.2.1
  have e10 : (10 : Int32) - nI sh = nI (10 - sh) := pk_sub (a := 10) (by omega)
  have ls : ∀ (k i : Nat) (K : wr_TL), i + k = 16 → (∀ b, b ≠ 39 → K b = L b) → (∀ e, e < 16 → K 39 e = lN (chF sh c0 e)) → wr_V l 0 mX7_chancesOfAtLeast 128 [some (.ref 0), some (.int (nI m)), none, some (.long (lN (suF sh c0 m i))), none, some (.int (nI i)), none] [] SH I K R 0 0 (fun v s' I' L' R' => v = some (.long (lN (suF sh c0 m 16))) ∧ s' = SH ∧ I' = I ∧ R' = R ∧ ∀ b, b ≠ 39 → L' b = L b) := by
    intro k
    induction k with
    | zero =>
      intro i K hi hf hK
      obtain rfl : i = 16 := by omega
      refine wv_iload dX7_chancesOfAtLeast_128 rfl ?_
      refine wv_aload_n dX7_chancesOfAtLeast_130 rfl ?_
      refine wv_getR fX7_72 dX7_chancesOfAtLeast_131 rfl (by first | assumption | rfl) (by first | exact hR _ _ _ rfl | assumption) ?_
      refine wv_alen dX7_chancesOfAtLeast_134 (t := 3) (by decide) (by first | assumption | rfl) ?_
      refine wv_icmp_ge (tgt := 164) dX7_chancesOfAtLeast_135 (by decide) (fun h135 => ?_) (fun h135 => absurd (nI_le (Nat.le_refl _) (by omega)) h135)
      refine wv_lload_n dX7_chancesOfAtLeast_164 rfl ?_
      refine wv_lret rfl dX7_chancesOfAtLeast_165 ?_
      exact ⟨rfl, rfl, rfl, rfl, hf⟩
    | succ k ih =>
      intro i K hi hf hK
      refine wv_iload dX7_chancesOfAtLeast_128 rfl ?_
      refine wv_aload_n dX7_chancesOfAtLeast_130 rfl ?_
      refine wv_getR fX7_72 dX7_chancesOfAtLeast_131 rfl (by first | assumption | rfl) (by first | exact hR _ _ _ rfl | assumption) ?_
      refine wv_alen dX7_chancesOfAtLeast_134 (t := 3) (by decide) (by first | assumption | rfl) ?_
      refine wv_icmp_ge (tgt := 164) dX7_chancesOfAtLeast_135 (by decide) (fun h135 => absurd h135 (nI_ge (b := 16) (by omega) (by omega))) (fun h135 => ?_)
      refine wv_lload_n dX7_chancesOfAtLeast_138 rfl ?_
      refine wv_iload dX7_chancesOfAtLeast_139 rfl ?_
      refine wv_iload_n dX7_chancesOfAtLeast_141 rfl ?_
      refine wv_icmp_lt (tgt := 155) dX7_chancesOfAtLeast_142 (by decide) (fun h142 => ?_) (fun h142 => ?_)
      · rw [nI_ltI (by omega) (by omega)] at h142
        have e : lN (suF sh c0 m i) + 0 = lN (suF sh c0 m (i + 1)) := by simp only [suF]; rw [if_neg (by omega)]; exact lN_add _ 0
        refine wv_lconst (v := 0) dX7_chancesOfAtLeast_155 (by decide) ?_
        refine wv_ladd dX7_chancesOfAtLeast_156 ?_
        rw [e]
        refine wv_lstore_k (i := 3) dX7_chancesOfAtLeast_157 rfl (by decide) ?_
        refine wv_iinc (v := nI (i + 1)) dX7_chancesOfAtLeast_158 rfl (nI_1 (i)) (by decide) ?_
        refine wv_goto (tgt := 128) dX7_chancesOfAtLeast_161 (by decide) ?_
        exact wv_le (by simp [wr_leq, wr_s1, wr_s2, wr_wide]) (ih (i + 1) K (by omega) hf hK)
      · rw [nI_ltI (by omega) (by omega)] at h142
        have e : lN (suF sh c0 m i) + K 39 i = lN (suF sh c0 m (i + 1)) := by rw [hK i (by omega)]; simp only [suF]; rw [if_pos (by omega)]; exact lN_add _ _
        refine wv_aload_n dX7_chancesOfAtLeast_145 rfl ?_
        refine wv_getR fX7_72 dX7_chancesOfAtLeast_146 rfl (by first | assumption | rfl) (by first | exact hR _ _ _ rfl | assumption) ?_
        refine wv_iload dX7_chancesOfAtLeast_149 rfl ?_
        refine wv_laldN dX7_chancesOfAtLeast_151 (by first | assumption | rfl) (by omega) (by decide) ?_
        refine wv_goto (tgt := 156) dX7_chancesOfAtLeast_152 (by decide) ?_
        refine wv_ladd dX7_chancesOfAtLeast_156 ?_
        rw [e]
        refine wv_lstore_k (i := 3) dX7_chancesOfAtLeast_157 rfl (by decide) ?_
        refine wv_iinc (v := nI (i + 1)) dX7_chancesOfAtLeast_158 rfl (nI_1 (i)) (by decide) ?_
        refine wv_goto (tgt := 128) dX7_chancesOfAtLeast_161 (by decide) ?_
        exact wv_le (by simp [wr_leq, wr_s1, wr_s2, wr_wide]) (ih (i + 1) K (by omega) hf hK)
  have lo : ∀ (k i : Nat) (K : wr_TL), i + k = c0 → (∀ b, b ≠ 39 → K b = L b) → (∀ e, e < 16 → K 39 e = lN (chF sh i e)) → wr_V l 0 mX7_chancesOfAtLeast 34 [some (.ref 0), some (.int (nI m)), some (.int (nI c0)), some (.int (nI i)), none, none, none] [] SH I K R 0 0 (fun v s' I' L' R' => v = some (.long (lN (suF sh c0 m 16))) ∧ s' = SH ∧ I' = I ∧ R' = R ∧ ∀ b, b ≠ 39 → L' b = L b) := by
    intro k
    induction k with
    | zero =>
      intro i K hi hf hK
      obtain rfl : i = c0 := by omega
      refine wv_iload_n dX7_chancesOfAtLeast_34 rfl ?_
      refine wv_iload_n dX7_chancesOfAtLeast_35 rfl ?_
      refine wv_icmp_ge (tgt := 123) dX7_chancesOfAtLeast_36 (by decide) (fun h36 => ?_) (fun h36 => absurd (nI_le (Nat.le_refl _) (by omega)) h36)
      refine wv_lconst (v := 0) dX7_chancesOfAtLeast_123 (by decide) ?_
      refine wv_lstore_k (i := 3) dX7_chancesOfAtLeast_124 rfl (by decide) ?_
      refine wv_iconst (v := nI 0) dX7_chancesOfAtLeast_125 rfl ?_
      refine wv_istore dX7_chancesOfAtLeast_126 (by decide) ?_
      exact wv_le (by simp [wr_leq, wr_s1, wr_s2, wr_wide]; rfl) (ls 16 0 K (by omega) hf hK)
    | succ k ih =>
      intro i K hi hf hK
      have inn : ∀ (j : Nat) (K : wr_TL), j ≤ 16 → (∀ b, b ≠ 39 → K b = L b) → (∀ e, e < 16 → K 39 e = if j ≤ e then lN (chF sh (i + 1) e) else lN (chF sh i e)) → wr_V l 0 mX7_chancesOfAtLeast 48 [some (.ref 0), some (.int (nI m)), some (.int (nI c0)), some (.int (nI i)), some (.int (nI j - 1)), none, none] [] SH I K R 0 0 (fun v s' I' L' R' => v = some (.long (lN (suF sh c0 m 16))) ∧ s' = SH ∧ I' = I ∧ R' = R ∧ ∀ b, b ≠ 39 → L' b = L b) := by
        intro j
        induction j with
        | zero =>
          intro K hj hf hK
          refine wv_iload dX7_chancesOfAtLeast_48 rfl ?_
          refine wv_if_lt (tgt := 117) dX7_chancesOfAtLeast_50 (by decide) (fun h50 => ?_) (fun h50 => absurd (by decide) h50)
          refine wv_iinc (v := nI (i + 1)) dX7_chancesOfAtLeast_117 rfl (nI_1 (i)) (by decide) ?_
          refine wv_goto (tgt := 34) dX7_chancesOfAtLeast_120 (by decide) ?_
          exact wv_le (by simp [wr_leq, wr_s1, wr_s2, wr_wide]) (ih (i + 1) K (by omega) hf (fun e he => by rw [hK e he, if_pos (by omega)]))
        | succ j ij =>
          intro K hj hf hK
          have ej : nI (j + 1) - 1 = nI j := by rw [← nI_1]; exact Int32.add_sub_cancel _ _
          rw [ej]
          have hKj := hK j (by omega)
          rw [if_neg (by omega)] at hKj
          refine wv_iload dX7_chancesOfAtLeast_48 rfl ?_
          refine wv_if_lt (tgt := 117) dX7_chancesOfAtLeast_50 (by decide) (fun h50 => absurd h50 (nI_pos (by omega))) (fun h50 => ?_)
          refine wv_iload dX7_chancesOfAtLeast_53 rfl ?_
          refine wv_if_le (tgt := 70) dX7_chancesOfAtLeast_55 (by decide) (fun h55 => ?_) (fun h55 => ?_)
          · have hj0 : j = 0 := by have := (nI_leI (b := 0) (by omega) (by omega)).mp h55; omega
            have ew : (0 : Int64) = lN (if 0 < j then chF sh i (j - 1) else 0) := by rw [if_neg (by omega)]; rfl
            refine wv_lconst (v := 0) dX7_chancesOfAtLeast_70 (by decide) ?_
            rw [ew]
            refine wv_lstore dX7_chancesOfAtLeast_71 (by decide) ?_
            refine wv_aload_n dX7_chancesOfAtLeast_73 rfl ?_
            refine wv_getR fX7_72 dX7_chancesOfAtLeast_74 rfl (by first | assumption | rfl) (by first | exact hR _ _ _ rfl | assumption) ?_
            refine wv_iload dX7_chancesOfAtLeast_77 rfl ?_
            refine wv_aload_n dX7_chancesOfAtLeast_79 rfl ?_
            refine wv_getR fX7_72 dX7_chancesOfAtLeast_80 rfl (by first | assumption | rfl) (by first | exact hR _ _ _ rfl | assumption) ?_
            refine wv_iload dX7_chancesOfAtLeast_83 rfl ?_
            refine wv_laldN dX7_chancesOfAtLeast_85 (by first | assumption | rfl) (by omega) (by decide) ?_
            refine wv_aload_n dX7_chancesOfAtLeast_86 rfl ?_
            refine wv_getR fX7_19 dX7_chancesOfAtLeast_87 rfl (by first | assumption | rfl) (by first | exact hR _ _ _ rfl | assumption) ?_
            refine wv_getI fX7_262 dX7_chancesOfAtLeast_90 rfl (by first | assumption | rfl) ?_
            rw [hys]
            refine wv_i2l dX7_chancesOfAtLeast_93 ?_
            rw [hKj, nI_l (by omega)]
            refine wv_lmul dX7_chancesOfAtLeast_94 ?_
            rw [lN_mul]
            refine wv_lload dX7_chancesOfAtLeast_95 rfl ?_
            refine wv_bipush (v := 10) dX7_chancesOfAtLeast_97 (by decide) ?_
            refine wv_aload_n dX7_chancesOfAtLeast_99 rfl ?_
            refine wv_getR fX7_19 dX7_chancesOfAtLeast_100 rfl (by first | assumption | rfl) (by first | exact hR _ _ _ rfl | assumption) ?_
            refine wv_getI fX7_262 dX7_chancesOfAtLeast_103 rfl (by first | assumption | rfl) ?_
            refine wv_isub dX7_chancesOfAtLeast_106 ?_
            rw [hys, e10]
            refine wv_i2l dX7_chancesOfAtLeast_107 ?_
            rw [nI_l (by omega)]
            refine wv_lmul dX7_chancesOfAtLeast_108 ?_
            rw [lN_mul]
            refine wv_ladd dX7_chancesOfAtLeast_109 ?_
            rw [lN_add]
            refine wv_lastN dX7_chancesOfAtLeast_110 (by first | assumption | rfl) (by omega) (by decide) ?_
            refine wv_iinc (v := nI j - 1) dX7_chancesOfAtLeast_111 rfl (by rw [Int32.sub_eq_add_neg]; rfl) (by decide) ?_
            refine wv_goto (tgt := 48) dX7_chancesOfAtLeast_114 (by decide) ?_
            exact wv_le (by simp [wr_leq, wr_s1, wr_s2, wr_wide]) (ij _ (by omega) (fun b hb => by funext d; simp [wr_uL, hb, hf b hb]) (fun e he => by
              simp only [wr_uL]
              by_cases hej : e = j
              · rw [if_pos ⟨trivial, hej⟩, hej, if_pos (Nat.le_refl j)]; rfl
              · rw [if_neg (fun z => hej z.2), hK e he]
                by_cases h2 : j + 1 ≤ e
                · rw [if_pos h2, if_pos (by omega)]
                · rw [if_neg h2, if_neg (by omega)]))
          · have hj0 : 0 < j := Nat.pos_of_ne_zero (fun z => h55 (by rw [z]; exact Int32.le_refl _))
            have ej1 : nI j - 1 = nI (j - 1) := pk_sub (b := 1) hj0
            have ew : K 39 (j - 1) = lN (if 0 < j then chF sh i (j - 1) else 0) := by rw [if_pos hj0, hK (j - 1) (by omega), if_neg (by omega)]
            refine wv_aload_n dX7_chancesOfAtLeast_58 rfl ?_
            refine wv_getR fX7_72 dX7_chancesOfAtLeast_59 rfl (by first | assumption | rfl) (by first | exact hR _ _ _ rfl | assumption) ?_
            refine wv_iload dX7_chancesOfAtLeast_62 rfl ?_
            refine wv_iconst (v := 1) dX7_chancesOfAtLeast_64 (by decide) ?_
            refine wv_isub dX7_chancesOfAtLeast_65 ?_
            rw [ej1]
            refine wv_laldN dX7_chancesOfAtLeast_66 (by first | assumption | rfl) (by omega) (by decide) ?_
            refine wv_goto (tgt := 71) dX7_chancesOfAtLeast_67 (by decide) ?_
            rw [ew]
            refine wv_lstore dX7_chancesOfAtLeast_71 (by decide) ?_
            refine wv_aload_n dX7_chancesOfAtLeast_73 rfl ?_
            refine wv_getR fX7_72 dX7_chancesOfAtLeast_74 rfl (by first | assumption | rfl) (by first | exact hR _ _ _ rfl | assumption) ?_
            refine wv_iload dX7_chancesOfAtLeast_77 rfl ?_
            refine wv_aload_n dX7_chancesOfAtLeast_79 rfl ?_
            refine wv_getR fX7_72 dX7_chancesOfAtLeast_80 rfl (by first | assumption | rfl) (by first | exact hR _ _ _ rfl | assumption) ?_
            refine wv_iload dX7_chancesOfAtLeast_83 rfl ?_
            refine wv_laldN dX7_chancesOfAtLeast_85 (by first | assumption | rfl) (by omega) (by decide) ?_
            refine wv_aload_n dX7_chancesOfAtLeast_86 rfl ?_
            refine wv_getR fX7_19 dX7_chancesOfAtLeast_87 rfl (by first | assumption | rfl) (by first | exact hR _ _ _ rfl | assumption) ?_
            refine wv_getI fX7_262 dX7_chancesOfAtLeast_90 rfl (by first | assumption | rfl) ?_
            rw [hys]
            refine wv_i2l dX7_chancesOfAtLeast_93 ?_
            rw [hKj, nI_l (by omega)]
            refine wv_lmul dX7_chancesOfAtLeast_94 ?_
            rw [lN_mul]
            refine wv_lload dX7_chancesOfAtLeast_95 rfl ?_
            refine wv_bipush (v := 10) dX7_chancesOfAtLeast_97 (by decide) ?_
            refine wv_aload_n dX7_chancesOfAtLeast_99 rfl ?_
            refine wv_getR fX7_19 dX7_chancesOfAtLeast_100 rfl (by first | assumption | rfl) (by first | exact hR _ _ _ rfl | assumption) ?_
            refine wv_getI fX7_262 dX7_chancesOfAtLeast_103 rfl (by first | assumption | rfl) ?_
            refine wv_isub dX7_chancesOfAtLeast_106 ?_
            rw [hys, e10]
            refine wv_i2l dX7_chancesOfAtLeast_107 ?_
            rw [nI_l (by omega)]
            refine wv_lmul dX7_chancesOfAtLeast_108 ?_
            rw [lN_mul]
            refine wv_ladd dX7_chancesOfAtLeast_109 ?_
            rw [lN_add]
            refine wv_lastN dX7_chancesOfAtLeast_110 (by first | assumption | rfl) (by omega) (by decide) ?_
            refine wv_iinc (v := nI j - 1) dX7_chancesOfAtLeast_111 rfl (by rw [Int32.sub_eq_add_neg]; rfl) (by decide) ?_
            refine wv_goto (tgt := 48) dX7_chancesOfAtLeast_114 (by decide) ?_
            exact wv_le (by simp [wr_leq, wr_s1, wr_s2, wr_wide]) (ij _ (by omega) (fun b hb => by funext d; simp [wr_uL, hb, hf b hb]) (fun e he => by
              simp only [wr_uL]
              by_cases hej : e = j
              · rw [if_pos ⟨trivial, hej⟩, hej, if_pos (Nat.le_refl j)]; rfl
              · rw [if_neg (fun z => hej z.2), hK e he]
                by_cases h2 : j + 1 ≤ e
                · rw [if_pos h2, if_pos (by omega)]
                · rw [if_neg h2, if_neg (by omega)]))
      refine wv_iload_n dX7_chancesOfAtLeast_34 rfl ?_
      refine wv_iload_n dX7_chancesOfAtLeast_35 rfl ?_
      refine wv_icmp_ge (tgt := 123) dX7_chancesOfAtLeast_36 (by decide) (fun h36 => absurd h36 (nI_ge (by omega) (by omega))) (fun h36 => ?_)
      refine wv_aload_n dX7_chancesOfAtLeast_39 rfl ?_
      refine wv_getR fX7_72 dX7_chancesOfAtLeast_40 rfl (by first | assumption | rfl) (by first | exact hR _ _ _ rfl | assumption) ?_
      refine wv_alen dX7_chancesOfAtLeast_43 (t := 3) (by decide) (by first | assumption | rfl) ?_
      refine wv_iconst (v := 1) dX7_chancesOfAtLeast_44 (by decide) ?_
      refine wv_isub dX7_chancesOfAtLeast_45 ?_
      refine wv_istore dX7_chancesOfAtLeast_46 (by decide) ?_
      exact wv_le (by simp [wr_leq, wr_s1, wr_s2, wr_wide]; rfl) (inn 16 K (by omega) hf (fun e he => by rw [hK e he, if_neg (by omega)]))
  have lz : ∀ (k i : Nat) (K : wr_TL), i + k = 16 → (∀ b, b ≠ 39 → K b = L b) → (∀ e, e < i → K 39 e = lN (chF sh 0 e)) → wr_V l 0 mX7_chancesOfAtLeast 2 [some (.ref 0), some (.int (nI m)), some (.int (nI c0)), some (.int (nI i)), none, none, none] [] SH I K R 0 0 (fun v s' I' L' R' => v = some (.long (lN (suF sh c0 m 16))) ∧ s' = SH ∧ I' = I ∧ R' = R ∧ ∀ b, b ≠ 39 → L' b = L b) := by
    intro k
    induction k with
    | zero =>
      intro i K hi hf hK
      obtain rfl : i = 16 := by omega
      refine wv_iload_n dX7_chancesOfAtLeast_2 rfl ?_
      refine wv_aload_n dX7_chancesOfAtLeast_3 rfl ?_
      refine wv_getR fX7_72 dX7_chancesOfAtLeast_4 rfl (by first | assumption | rfl) (by first | exact hR _ _ _ rfl | assumption) ?_
      refine wv_alen dX7_chancesOfAtLeast_7 (t := 3) (by decide) (by first | assumption | rfl) ?_
      refine wv_icmp_ge (tgt := 32) dX7_chancesOfAtLeast_8 (by decide) (fun h8 => ?_) (fun h8 => absurd (nI_le (Nat.le_refl _) (by omega)) h8)
      refine wv_iconst (v := nI 0) dX7_chancesOfAtLeast_32 rfl ?_
      refine wv_istore_k (i := 3) dX7_chancesOfAtLeast_33 rfl (by decide) ?_
      exact wv_le (by simp [wr_leq, wr_s1, wr_s2, wr_wide]) (lo c0 0 K (by omega) hf hK)
    | succ k ih =>
      intro i K hi hf hK
      refine wv_iload_n dX7_chancesOfAtLeast_2 rfl ?_
      refine wv_aload_n dX7_chancesOfAtLeast_3 rfl ?_
      refine wv_getR fX7_72 dX7_chancesOfAtLeast_4 rfl (by first | assumption | rfl) (by first | exact hR _ _ _ rfl | assumption) ?_
      refine wv_alen dX7_chancesOfAtLeast_7 (t := 3) (by decide) (by first | assumption | rfl) ?_
      refine wv_icmp_ge (tgt := 32) dX7_chancesOfAtLeast_8 (by decide) (fun h8 => absurd h8 (nI_ge (b := 16) (by omega) (by omega))) (fun h8 => ?_)
      refine wv_aload_n dX7_chancesOfAtLeast_11 rfl ?_
      refine wv_getR fX7_72 dX7_chancesOfAtLeast_12 rfl (by first | assumption | rfl) (by first | exact hR _ _ _ rfl | assumption) ?_
      refine wv_iload_n dX7_chancesOfAtLeast_15 rfl ?_
      refine wv_iload_n dX7_chancesOfAtLeast_16 rfl ?_
      refine wv_if_ne (tgt := 24) dX7_chancesOfAtLeast_17 (by decide) (fun h17 => ?_) (fun h17 => ?_)
      · have e1 : (0 : Int64) = lN (chF sh 0 i) := by simp only [chF]; rw [if_neg (fun z => h17 (by rw [z]; rfl))]; rfl
        refine wv_lconst (v := 0) dX7_chancesOfAtLeast_24 (by decide) ?_
        rw [e1]
        refine wv_lastN dX7_chancesOfAtLeast_25 (by first | assumption | rfl) (by omega) (by decide) ?_
        refine wv_iinc (v := nI (i + 1)) dX7_chancesOfAtLeast_26 rfl (nI_1 (i)) (by decide) ?_
        refine wv_goto (tgt := 2) dX7_chancesOfAtLeast_29 (by decide) ?_
        exact wv_le (by simp [wr_leq, wr_s1, wr_s2, wr_wide]) (ih (i + 1) _ (by omega) (fun b hb => by funext d; simp [wr_uL, hb, hf b hb]) (fun e he => by
          simp only [wr_uL]
          by_cases hei : e = i
          · rw [if_pos ⟨trivial, hei⟩, hei]
          · rw [if_neg (fun z => hei z.2)]; exact hK e (by omega)))
      · have e1 : (1 : Int64) = lN (chF sh 0 i) := by simp only [chF]; rw [if_pos ((nI_eq (b := 0) (by omega) (by omega)).mp h17)]; rfl
        refine wv_lconst (v := 1) dX7_chancesOfAtLeast_20 (by decide) ?_
        refine wv_goto (tgt := 25) dX7_chancesOfAtLeast_21 (by decide) ?_
        rw [e1]
        refine wv_lastN dX7_chancesOfAtLeast_25 (by first | assumption | rfl) (by omega) (by decide) ?_
        refine wv_iinc (v := nI (i + 1)) dX7_chancesOfAtLeast_26 rfl (nI_1 (i)) (by decide) ?_
        refine wv_goto (tgt := 2) dX7_chancesOfAtLeast_29 (by decide) ?_
        exact wv_le (by simp [wr_leq, wr_s1, wr_s2, wr_wide]) (ih (i + 1) _ (by omega) (fun b hb => by funext d; simp [wr_uL, hb, hf b hb]) (fun e he => by
          simp only [wr_uL]
          by_cases hei : e = i
          · rw [if_pos ⟨trivial, hei⟩, hei]
          · rw [if_neg (fun z => hei z.2)]; exact hK e (by omega)))
  refine wv_pad 4 ?_
  show wr_V l 0 mX7_chancesOfAtLeast 0 [some (.ref 0), some (.int (nI m)), some (.int (nI c0)), none, none, none, none] [] SH I L R 0 0 _
  refine wv_iconst (v := nI 0) dX7_chancesOfAtLeast_0 rfl ?_
  refine wv_istore_k (i := 3) dX7_chancesOfAtLeast_1 rfl (by decide) ?_
  exact wv_le (by simp [wr_leq, wr_s1, wr_s2, wr_wide]) (lz 16 0 L (by omega) (fun _ _ => rfl) (fun e he => absurd he (by omega)))

def gSn (g : RG) : Nat := tN (gSh g)
def gWd (g : RG) (S : SS) : Nat := cn (wnt g (gD g) S) (gN g)
theorem gcd10 (a c : Nat) : 0 < Nat.gcd a (10 ^ c) := Nat.gcd_pos_of_pos_right _ (Nat.pow_pos (by omega))
theorem p10 {c : Nat} (h : c ≤ 15) : 10 ^ c ≤ 10 ^ 15 := Nat.pow_le_pow_right (by omega) h
set_option maxHeartbeats 4000000 in
set_option maxRecDepth 100000 in
theorem cW_oddsL {l : Launch} {R : wr_TR} (hR : wr_RC R) (J : wr_TI) (K : wr_TL) (u c : Nat) (part : Int32) (hc : c ≤ 15) (hu : u ≤ 10 ^ c) : wr_V l 5 mX7_odds 52 [some (.ref 0), none, some (.int part), some (.int (nI c)), some (.long (lN u)), none, some (.long (lN 1)), none, some (.int (nI 0)), none] [] SH J K R 0 0 (fun v s' I' L' R' => v = some (.long (if part = 0 then lN (u / Nat.gcd u (10 ^ c)) else lN (10 ^ c / Nat.gcd u (10 ^ c)))) ∧ s' = SH ∧ I' = J ∧ R' = R ∧ L' = K) := by
  have h15 := p10 hc
  have hg0 := gcd10 u c
  have hgl : Nat.gcd u (10 ^ c) ≤ 10 ^ c := Nat.gcd_le_right _ (Nat.pow_pos (by omega))
  have he : eu 128 u (10 ^ c) = Nat.gcd u (10 ^ c) := eu_gcd 50 128 _ _ (by omega) (by omega)
  have lp : ∀ (k i : Nat), i + k = c → wr_V l 5 mX7_odds 52 [some (.ref 0), none, some (.int part), some (.int (nI c)), some (.long (lN u)), none, some (.long (lN (10 ^ i))), none, some (.int (nI i)), none] [] SH J K R 0 0 (fun v s' I' L' R' => v = some (.long (if part = 0 then lN (u / Nat.gcd u (10 ^ c)) else lN (10 ^ c / Nat.gcd u (10 ^ c)))) ∧ s' = SH ∧ I' = J ∧ R' = R ∧ L' = K) := by
    intro k
    induction k with
    | zero =>
      intro i hi
      obtain rfl : i = c := by omega
      refine wv_iload dX7_odds_52 rfl ?_
      refine wv_iload_n dX7_odds_54 rfl ?_
      refine wv_icmp_ge (tgt := 72) dX7_odds_55 (by decide) (fun h55 => ?_) (fun h55 => absurd (nI_le (Nat.le_refl _) (by omega)) h55)
      refine wv_lload dX7_odds_72 rfl ?_
      refine wv_lload dX7_odds_74 rfl ?_
      refine wv_s2e oX7_greatestDivisor kX7_201 dX7_odds_76 (by omega) (Nat.le_of_ble_eq_true rfl) (Nat.le_of_ble_eq_true rfl) (cW_gcd u (10 ^ i) (by omega) (by omega)) ?_
      rw [he]
      refine wv_lstore dX7_odds_79 (by decide) ?_
      refine wv_lload dX7_odds_81 rfl ?_
      refine wv_lconst (v := 0) dX7_odds_83 (by decide) ?_
      refine wv_lcmp dX7_odds_84 ?_
      refine wv_if_ne (tgt := 92) dX7_odds_85 (by decide) (fun h85 => ?_) (fun h85 => absurd h85 (by rw [lg_cmp_eq, lN0 (by omega)]; omega))
      refine wv_iload_n dX7_odds_92 rfl ?_
      refine wv_if_ne (tgt := 104) dX7_odds_93 (by decide) (fun h93 => ?_) (fun h93 => ?_)
      · refine wv_lload dX7_odds_104 rfl ?_
        refine wv_lload dX7_odds_106 rfl ?_
        refine wv_ldiv dX7_odds_108 (by rw [lN0 (by omega)]; omega) ?_
        refine wv_lret rfl dX7_odds_109 ?_
        refine ⟨?_, rfl, rfl, rfl, rfl⟩
        first
        | rw [if_pos h93, pk_lDiv (by omega) hg0 (by omega)]
        | rw [if_neg h93, pk_lDiv (by omega) hg0 (by omega)]
      · refine wv_lload dX7_odds_96 rfl ?_
        refine wv_lload dX7_odds_98 rfl ?_
        refine wv_ldiv dX7_odds_100 (by rw [lN0 (by omega)]; omega) ?_
        refine wv_goto (tgt := 109) dX7_odds_101 (by decide) ?_
        refine wv_lret rfl dX7_odds_109 ?_
        refine ⟨?_, rfl, rfl, rfl, rfl⟩
        first
        | rw [if_pos h93, pk_lDiv (by omega) hg0 (by omega)]
        | rw [if_neg h93, pk_lDiv (by omega) hg0 (by omega)]
    | succ k ih =>
      intro i hi
      refine wv_iload dX7_odds_52 rfl ?_
      refine wv_iload_n dX7_odds_54 rfl ?_
      refine wv_icmp_ge (tgt := 72) dX7_odds_55 (by decide) (fun h55 => absurd h55 (nI_ge (by omega) (by omega))) (fun h55 => ?_)
      refine wv_lload dX7_odds_58 rfl ?_
      refine wv_ldc2_w nX7_199 dX7_odds_60 ?_
      refine wv_lmul dX7_odds_63 ?_
      rw [show (10 : Int64) = lN 10 from rfl, lN_mul, ← Nat.pow_succ]
      refine wv_lstore dX7_odds_64 (by decide) ?_
      refine wv_iinc (v := nI (i + 1)) dX7_odds_66 rfl (nI_1 (i)) (by decide) ?_
      refine wv_goto (tgt := 52) dX7_odds_69 (by decide) ?_
      exact wv_le (by simp [wr_leq, wr_s1, wr_s2, wr_wide]) (ih (i + 1) (by omega))
  exact lp c 0 (by omega)
set_option maxHeartbeats 4000000 in
set_option maxRecDepth 100000 in
theorem cW_odds {l : Launch} {I : wr_TI} {L : wr_TL} {R : wr_TR} (hR : wr_RC R) (t : Nat) (ht : t = 3 ∨ t = 10) (hto : R 0 1 = t + 1) (g : RG) (hV : rgV I L t g) (F : FS) (hF : crF I L 18 g F) (m part : Int32) : wr_P l 5 mX7_odds [.ref 0, .int m, .int part] SH I L R (fun v s' I' L' R' => v = some (.long (aOdds (gSn g) (gWd g F.1) m part)) ∧ s' = SH ∧ R' = R ∧ (∀ a, a ≠ 22 → a ≠ t + 3 → I' a = I a) ∧ ∀ b, b ≠ 39 → L' b = L b) := by
  have hsp : 0 ≤ gSh g ∧ gSh g ≤ 9 := hV.2.2.2.2.2.2.2.2.2.2.2.2.2.2.2.2.2.2.2.1
  obtain ⟨sh, hsh0, hsh⟩ := ix_of (x := gSh g) (n := 10) ⟨hsp.1, by have := hsp.2; show gSh g < (10 : Int32); clear hV hF; grind⟩ (by omega)
  have esn : gSn g = sh := by unfold gSn; rw [hsh, tN_nI (by omega)]
  have hw : gWd g F.1 ≤ gN g := cn_le _ _
  have hn40 := hV.2.2.1
  refine wv_pad 7 ?_
  show wr_V l 5 mX7_odds 0 [some (.ref 0), some (.int m), some (.int part), none, none, none, none, none, none, none] [] SH I L R 0 0 _
  refine wv_iload_n dX7_odds_0 rfl ?_
  refine wv_if_lt (tgt := 19) dX7_odds_1 (by decide) (fun h1 => ?_) (fun h1 => ?_)
  · refine wv_ldc2_w nX7_188 dX7_odds_19 ?_
    refine wv_lret rfl dX7_odds_22 ?_
    refine ⟨?_, rfl, rfl, fun _ _ _ => rfl, fun _ _ => rfl⟩
    unfold aOdds
    rw [if_neg]
    grind
  · refine wv_iload_n dX7_odds_4 rfl ?_
    refine wv_bipush (v := 40) dX7_odds_5 (by decide) ?_
    refine wv_icmp_gt (tgt := 19) dX7_odds_7 (by decide) (fun h7 => ?_) (fun h7 => ?_)
    · refine wv_ldc2_w nX7_188 dX7_odds_19 ?_
      refine wv_lret rfl dX7_odds_22 ?_
      refine ⟨?_, rfl, rfl, fun _ _ _ => rfl, fun _ _ => rfl⟩
      unfold aOdds
      rw [if_neg]
      grind
    · refine wv_iload_n dX7_odds_10 rfl ?_
      refine wv_if_lt (tgt := 19) dX7_odds_11 (by decide) (fun h11 => ?_) (fun h11 => ?_)
      · refine wv_ldc2_w nX7_188 dX7_odds_19 ?_
        refine wv_lret rfl dX7_odds_22 ?_
        refine ⟨?_, rfl, rfl, fun _ _ _ => rfl, fun _ _ => rfl⟩
        unfold aOdds
        rw [if_neg]
        grind
      · refine wv_iload_n dX7_odds_14 rfl ?_
        refine wv_iconst (v := 1) dX7_odds_15 (by decide) ?_
        refine wv_icmp_le (tgt := 23) dX7_odds_16 (by decide) (fun h16 => ?_) (fun h16 => ?_)
        · have hp : (0 ≤ m ∧ m ≤ 40) ∧ (0 ≤ part ∧ part ≤ 1) := ⟨⟨Int32.not_lt.mp h1, Int32.not_lt.mp h7⟩, Int32.not_lt.mp h11, h16⟩
          obtain ⟨a, ha, rfl⟩ := ix_of (x := m) (n := 41) ⟨hp.1.1, by have := hp.1.2; show m < (41 : Int32); clear hV hF; grind⟩ (by omega)
          refine wv_aload_n dX7_odds_23 rfl ?_
          refine wv_v0 oX7_would kX7_190 dX7_odds_24 (by omega) (by first | assumption | rfl) ⟨rfl, by decide⟩ (Nat.le_of_ble_eq_true rfl) (Nat.le_of_ble_eq_true rfl) (cW_would hR t ht hto g hV F hF) (fun v9 s9 J9 L9 R9 h9 => ?_)
          obtain ⟨rfl, rfl, rfl, rfl, hJ⟩ := h9
          have hV9 : rgV J9 L9 t g := rgV_fr hV (fun a h1 h2 h3 => hJ a (by omega) h3) rfl
          rw [show aWould g F.1 = nI (gWd g F.1) from rfl]
          refine wv_istore_k (i := 3) dX7_odds_27 rfl (by decide) ?_
          refine wv_iload_n dX7_odds_28 rfl ?_
          refine wv_bipush (v := 15) dX7_odds_29 (by decide) ?_
          refine wv_icmp_le (tgt := 38) dX7_odds_31 (by decide) (fun h31 => ?_) (fun h31 => ?_)
          · have hw15 := (nI_leI (b := 15) (by omega) (by omega)).mp h31
            refine wv_aload_n dX7_odds_38 rfl ?_
            refine wv_iload_n dX7_odds_39 rfl ?_
            refine wv_iload_n dX7_odds_40 rfl ?_
            refine wv_v2 oX7_chancesOfAtLeast kX7_196 dX7_odds_41 (by omega) (by first | assumption | rfl) ⟨rfl, by decide⟩ (Nat.le_of_ble_eq_true rfl) (Nat.le_of_ble_eq_true rfl) (cW_chances hR t ht hto g hV9 sh (gWd g F.1) a hsh (by omega) hw15 (by omega)) (fun v8 s8 J8 L8 R8 h8 => ?_)
            obtain ⟨rfl, rfl, rfl, rfl, hf8⟩ := h8
            refine wv_lstore dX7_odds_44 (by decide) ?_
            refine wv_lconst (v := 1) dX7_odds_46 (by decide) ?_
            refine wv_lstore dX7_odds_47 (by decide) ?_
            refine wv_iconst (v := nI 0) dX7_odds_49 rfl ?_
            refine wv_istore dX7_odds_50 (by decide) ?_
            have hq := cW_oddsL (l := l) hR J8 L8 (suF sh (gWd g F.1) a 16) (gWd g F.1) part hw15 (Nat.le_trans (suF_0 _) (suF_le (by omega) _ 15))
            refine wr_V.imp (wv_le (by simp [wr_leq, wr_s1, wr_s2, wr_wide]; rfl) hq) (fun v s' I' L' R' h => ?_)
            obtain ⟨rfl, rfl, rfl, rfl, rfl⟩ := h
            refine ⟨?_, rfl, rfl, hJ, hf8⟩
            unfold aOdds
            rw [if_pos hp, if_neg (show ¬ 15 < gWd g F.1 by omega), esn, tN_nI (by omega)]
          · have hw15 : ¬ gWd g F.1 ≤ 15 := fun z => h31 (nI_le (b := 15) z (by omega))
            refine wv_ldc2_w nX7_194 dX7_odds_34 ?_
            refine wv_lret rfl dX7_odds_37 ?_
            refine ⟨?_, rfl, rfl, hJ, fun _ _ => rfl⟩
            unfold aOdds
            rw [if_pos hp, if_pos (by omega)]
        · refine wv_ldc2_w nX7_188 dX7_odds_19 ?_
          refine wv_lret rfl dX7_odds_22 ?_
          refine ⟨?_, rfl, rfl, fun _ _ _ => rfl, fun _ _ => rfl⟩
          unfold aOdds
          rw [if_neg]
          grind

