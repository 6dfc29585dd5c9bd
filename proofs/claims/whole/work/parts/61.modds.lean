/-! the model: odds -/
def bin : Nat → Nat → Nat
  | _, 0 => 1
  | 0, _ + 1 => 0
  | c + 1, j + 1 => bin c j + bin c (j + 1)
theorem bin_tab : ∀ c : Fin 16, ∀ j : Fin 16, j.val ≤ c.val → bin c.val j.val * (c.val - j.val) / (j.val + 1) = bin c.val (j.val + 1) ∧ bin c.val j.val ≤ 6435 := by decide +kernel
theorem bin_gt : ∀ c j, c < j → bin c j = 0 := by
  intro c
  induction c with
  | zero => intro j h; obtain ⟨k, rfl⟩ : ∃ k, j = k + 1 := ⟨j - 1, by omega⟩; rfl
  | succ c ih =>
    intro j h
    obtain ⟨k, rfl⟩ : ∃ k, j = k + 1 := ⟨j - 1, by omega⟩
    rw [bin, ih k (by omega), ih (k + 1) (by omega)]
theorem chF_gt {sh : Nat} : ∀ c i, c < i → chF sh c i = 0 := by
  intro c
  induction c with
  | zero => intro i h; simp only [chF]; rw [if_neg (by omega)]
  | succ c ih =>
    intro i h
    simp only [chF]
    rw [ih i (by omega), if_pos (by omega), ih (i - 1) (by omega)]
    simp
theorem chF_bin {sh : Nat} : ∀ c i, i ≤ c → chF sh c i = bin c i * ((10 - sh) ^ i * sh ^ (c - i)) := by
  intro c
  induction c with
  | zero => intro i h; obtain rfl : i = 0 := by omega
            simp [chF, bin]
  | succ c ih =>
    intro i h
    simp only [chF]
    cases i with
    | zero =>
      rw [ih 0 (by omega)]
      have e1 : bin c 0 = 1 := by cases c <;> rfl
      have e2 : bin (c + 1) 0 = 1 := rfl
      simp [e1, e2, Nat.pow_succ]
    | succ i =>
      rw [if_pos (by omega), Nat.add_sub_cancel, ih i (by omega), bin, Nat.add_mul, show c + 1 - (i + 1) = c - i by omega]
      have e3 : bin c i * ((10 - sh) ^ i * sh ^ (c - i)) * (10 - sh) = bin c i * ((10 - sh) ^ (i + 1) * sh ^ (c - i)) := by
        rw [Nat.pow_succ]
        generalize (10 - sh) ^ i = p
        generalize sh ^ (c - i) = q
        rw [Nat.mul_assoc, Nat.mul_assoc, Nat.mul_comm q, ← Nat.mul_assoc p]
      rw [e3]
      by_cases hi : i + 1 ≤ c
      · rw [ih (i + 1) hi]
        have e4 : bin c (i + 1) * ((10 - sh) ^ (i + 1) * sh ^ (c - (i + 1))) * sh = bin c (i + 1) * ((10 - sh) ^ (i + 1) * sh ^ (c - i)) := by
          rw [show c - i = c - (i + 1) + 1 by omega, Nat.pow_succ sh, Nat.mul_assoc, Nat.mul_assoc]
        rw [e4, Nat.add_comm]
      · rw [chF_gt c (i + 1) (by omega), bin_gt c (i + 1) (by omega)]
        simp
theorem suF_cut {sh c m : Nat} : ∀ k, suF sh c m (c + 1 + k) = suF sh c m (c + 1) := by
  intro k
  induction k with
  | zero => rfl
  | succ k ih =>
    rw [show c + 1 + (k + 1) = (c + 1 + k) + 1 by omega, suF, ih, chF_gt c _ (by omega)]
    simp
theorem pw_le {sh k : Nat} (h : sh ≤ 9) (a b : Nat) (hk : a + b = k) : (10 - sh) ^ a * sh ^ b ≤ 10 ^ k := by
  rw [← hk, Nat.pow_add]
  exact Nat.mul_le_mul (Nat.pow_le_pow_left (by omega) a) (Nat.pow_le_pow_left (by omega) b)
set_option maxHeartbeats 4000000 in
set_option maxRecDepth 100000 in
theorem x_common {l : Launch} {I : wr_TI} {L : wr_TL} {R : wr_TR} (x0 y0 : Nat) (hx0 : x0 < 2 ^ 63) (hy0 : y0 < 2 ^ 63) : wr_E l 0 mX8_common [.long (lN x0), .long (lN y0)] SH I L R (some (.long (lN (Nat.gcd x0 y0)))) I L R := by
  have lp : ∀ (k x y : Nat), y < k → x < 2 ^ 63 → y < 2 ^ 63 → wr_V l 0 mX8_common 6 [none, none, none, none, some (.long (lN x)), none, some (.long (lN y)), none, none, none] [] SH I L R 0 0 (fun v s' I' L' R' => v = some (.long (lN (Nat.gcd x y))) ∧ s' = SH ∧ I' = I ∧ L' = L ∧ R' = R) := by
    intro k
    induction k with
    | zero => intro x y h; omega
    | succ k ih =>
      intro x y hk hx hy
      refine wv_lload dX8_common_6 rfl ?_
      refine wv_lconst (v := 0) dX8_common_8 (by decide) ?_
      refine wv_lcmp dX8_common_9 ?_
      refine wv_if_le (tgt := 31) dX8_common_10 (by decide) (fun h10 => ?_) (fun h10 => ?_)
      · rw [lg_cmp_le, show (0 : Int64) = lN 0 from rfl, pk_lLE hy (by omega)] at h10
        obtain rfl : y = 0 := by omega
        refine wv_lload dX8_common_31 rfl ?_
        refine wv_lret rfl dX8_common_33 ?_
        refine ⟨?_, rfl, rfl, rfl, rfl⟩
        rw [Nat.gcd_zero_right]
      · rw [lg_cmp_le, show (0 : Int64) = lN 0 from rfl, pk_lLE hy (by omega)] at h10
        have hm := Nat.mod_lt x (show 0 < y by omega)
        refine wv_lload dX8_common_13 rfl ?_
        refine wv_lload dX8_common_15 rfl ?_
        refine wv_lrem dX8_common_17 (fun z => by rw [lN0 hy] at z; omega) ?_
        rw [pk_lRem hx (by omega) hy]
        refine wv_lstore dX8_common_18 (by decide) ?_
        refine wv_lload dX8_common_20 rfl ?_
        refine wv_lstore dX8_common_22 (by decide) ?_
        refine wv_lload dX8_common_24 rfl ?_
        refine wv_lstore dX8_common_26 (by decide) ?_
        refine wv_goto (tgt := 6) dX8_common_28 (by decide) ?_
        have e1 : Nat.gcd x y = Nat.gcd y (x % y) := by rw [Nat.gcd_comm x y, Nat.gcd_rec y x, Nat.gcd_comm]
        rw [e1]
        exact wv_le (by simp [wr_leq, wr_s1, wr_s2, wr_wide]) (ih y (x % y) (by omega) hy (by omega))
  refine wv_pad 6 ?_
  show wr_V l 0 mX8_common 0 [some (.long (lN x0)), none, some (.long (lN y0)), none, none, none, none, none, none, none] [] SH I L R 0 0 _
  refine wv_lload_n dX8_common_0 rfl ?_
  refine wv_lstore dX8_common_1 (by decide) ?_
  refine wv_lload_n dX8_common_3 rfl ?_
  refine wv_lstore dX8_common_4 (by decide) ?_
  exact wv_le (by simp [wr_leq, wr_s1, wr_s2, wr_wide]) (lp (y0 + 1) x0 y0 (by omega) hx0 hy0)

set_option maxHeartbeats 4000000 in
set_option maxRecDepth 100000 in
theorem x_oddsL {l : Launch} {L : wr_TL} {R : wr_TR} (hR : wr_RC R) (J : wr_TI) (sh c m : Nat) (part : Int32) (hc : c ≤ 15) (hs9 : sh ≤ 9) (hm : m ≤ 40) (hys : J 55 33 = nI sh) : wr_V l 6 mX8_odds 44 [some (.ref 55), some (.int (nI m)), some (.int part), some (.int (nI c)), some (.long (lN 1)), none, some (.int (nI 0)), none, none, none, none, none, none, none] [] SH J L R 0 0 (fun v s' I' L' R' => v = some (.long (if part = 0 then lN (suF sh c m 16 / Nat.gcd (suF sh c m 16) (10 ^ c)) else lN (10 ^ c / Nat.gcd (suF sh c m 16) (10 ^ c)))) ∧ s' = SH ∧ I' = J ∧ R' = R ∧ L' = L) := by
  have h15 := p10 hc
  have e10 : (10 : Int32) - nI sh = nI (10 - sh) := pk_sub (a := 10) (by omega)
  have hsu : suF sh c m 16 ≤ 10 ^ c := Nat.le_trans (suF_0 _) (suF_le (by omega) _ 15)
  have hcut : suF sh c m (c + 1) = suF sh c m 16 := by have := suF_cut (sh := sh) (c := c) (m := m) (15 - c); rwa [show c + 1 + (15 - c) = 16 by omega, eq_comm] at this
  have hg0 := gcd10 (suF sh c m 16) c
  have hgl : Nat.gcd (suF sh c m 16) (10 ^ c) ≤ 10 ^ c := Nat.gcd_le_right _ (Nat.pow_pos (by omega))
  have lj : ∀ (k i : Nat), i + k = c + 1 → wr_V l 6 mX8_odds 73 [some (.ref 55), some (.int (nI m)), some (.int part), some (.int (nI c)), some (.long (lN (10 ^ c))), none, some (.long (lN (suF sh c m i))), none, some (.long (lN (bin c i))), none, some (.int (nI i)), none, none, none] [] SH J L R 0 0 (fun v s' I' L' R' => v = some (.long (if part = 0 then lN (suF sh c m 16 / Nat.gcd (suF sh c m 16) (10 ^ c)) else lN (10 ^ c / Nat.gcd (suF sh c m 16) (10 ^ c)))) ∧ s' = SH ∧ I' = J ∧ R' = R ∧ L' = L) := by
    intro k
    induction k with
    | zero =>
      intro i hi
      obtain rfl : i = c + 1 := by omega
      rw [hcut]
      refine wv_iload dX8_odds_73 rfl ?_
      refine wv_iload_n dX8_odds_75 rfl ?_
      refine wv_icmp_gt (tgt := 161) dX8_odds_76 (by decide) (fun h76 => ?_) (fun h76 => absurd (nI_lt (by omega) (by omega)) h76)
      refine wv_lload dX8_odds_161 rfl ?_
      refine wv_lload dX8_odds_163 rfl ?_
      refine wv_s2e oX8_common kX8_469 dX8_odds_165 (by omega) (Nat.le_of_ble_eq_true rfl) (Nat.le_of_ble_eq_true rfl) (x_common (10 ^ c) (suF sh c m 16) (by omega) (by omega)) ?_
      rw [Nat.gcd_comm]
      refine wv_lstore dX8_odds_168 (by decide) ?_
      refine wv_iload_n dX8_odds_170 rfl ?_
      refine wv_if_ne (tgt := 182) dX8_odds_171 (by decide) (fun h171 => ?_) (fun h171 => ?_)
      · refine wv_lload dX8_odds_182 rfl ?_
        refine wv_lload dX8_odds_184 rfl ?_
        refine wv_ldiv dX8_odds_186 (by rw [lN0 (by omega)]; omega) ?_
        refine wv_lret rfl dX8_odds_187 ?_
        refine ⟨?_, rfl, rfl, rfl, rfl⟩
        first
        | rw [if_pos h171, pk_lDiv (by omega) hg0 (by omega)]
        | rw [if_neg h171, pk_lDiv (by omega) hg0 (by omega)]
      · refine wv_lload dX8_odds_174 rfl ?_
        refine wv_lload dX8_odds_176 rfl ?_
        refine wv_ldiv dX8_odds_178 (by rw [lN0 (by omega)]; omega) ?_
        refine wv_goto (tgt := 187) dX8_odds_179 (by decide) ?_
        refine wv_lret rfl dX8_odds_187 ?_
        refine ⟨?_, rfl, rfl, rfl, rfl⟩
        first
        | rw [if_pos h171, pk_lDiv (by omega) hg0 (by omega)]
        | rw [if_neg h171, pk_lDiv (by omega) hg0 (by omega)]
    | succ k ih =>
      intro i hi
      obtain ⟨b1, b2⟩ := bin_tab ⟨c, by omega⟩ ⟨i, by omega⟩ (by simp only; omega)
      simp only at b1 b2
      have hch := chF_bin (sh := sh) c i (by omega)
      have lk : ∀ (q k2 : Nat), k2 + q = c → wr_V l 6 mX8_odds 86 [some (.ref 55), some (.int (nI m)), some (.int part), some (.int (nI c)), some (.long (lN (10 ^ c))), none, some (.long (lN (suF sh c m i))), none, some (.long (lN (bin c i))), none, some (.int (nI i)), some (.long (lN (bin c i * ((10 - sh) ^ (min k2 i) * sh ^ (k2 - i))))), none, some (.int (nI k2))] [] SH J L R 0 0 (fun v s' I' L' R' => v = some (.long (if part = 0 then lN (suF sh c m 16 / Nat.gcd (suF sh c m 16) (10 ^ c)) else lN (10 ^ c / Nat.gcd (suF sh c m 16) (10 ^ c)))) ∧ s' = SH ∧ I' = J ∧ R' = R ∧ L' = L) := by
        intro q
        induction q with
        | zero =>
          intro k2 hk2
          obtain rfl : k2 = c := by omega
          rw [show min k2 i = i by omega, ← hch]
          have ed : lN (bin k2 i) * (nI k2 - nI i).toInt64 / (nI i + 1).toInt64 = lN (bin k2 (i + 1)) := by
            rw [pk_sub (by omega), nI_1, nI_l (by omega), nI_l (by omega), lN_mul, pk_lDiv (by have := Nat.mul_le_mul b2 (show k2 - i ≤ 15 by omega); omega) (by omega) (by omega), b1]
          refine wv_iload dX8_odds_86 rfl ?_
          refine wv_iload_n dX8_odds_88 rfl ?_
          refine wv_icmp_ge (tgt := 126) dX8_odds_89 (by decide) (fun h89 => ?_) (fun h89 => absurd (Int32.le_refl _) h89)
          refine wv_iload dX8_odds_126 rfl ?_
          refine wv_iload_n dX8_odds_128 rfl ?_
          refine wv_icmp_lt (tgt := 139) dX8_odds_129 (by decide) (fun h129 => ?_) (fun h129 => ?_)
          · rw [nI_ltI (by omega) (by omega)] at h129
            have e0 : suF sh k2 m (i + 1) = suF sh k2 m i := by simp only [suF]; rw [if_neg (by omega)]; omega
            refine wv_lload dX8_odds_139 rfl ?_
            refine wv_iload_n dX8_odds_141 rfl ?_
            refine wv_iload dX8_odds_142 rfl ?_
            refine wv_isub dX8_odds_144 ?_
            refine wv_i2l dX8_odds_145 ?_
            refine wv_lmul dX8_odds_146 ?_
            refine wv_iload dX8_odds_147 rfl ?_
            refine wv_iconst (v := 1) dX8_odds_149 (by decide) ?_
            refine wv_iadd dX8_odds_150 ?_
            refine wv_i2l dX8_odds_151 ?_
            refine wv_ldiv dX8_odds_152 (by rw [nI_1, nI_l (by omega), lN0 (by omega)]; omega) ?_
            rw [ed]
            refine wv_lstore dX8_odds_153 (by decide) ?_
            refine wv_iinc (v := nI (i + 1)) dX8_odds_155 rfl (nI_1 (i)) (by decide) ?_
            refine wv_goto (tgt := 73) dX8_odds_158 (by decide) ?_
            have := ih (i + 1) (by omega)
            first
              | (have _ := e0; rw [e0] at this; exact wv_le (by simp [wr_leq, wr_s1, wr_s2, wr_wide]) this)
              | (exact wv_le (by simp [wr_leq, wr_s1, wr_s2, wr_wide]) this)
          · rw [nI_ltI (by omega) (by omega)] at h129
            have e : suF sh k2 m (i + 1) = suF sh k2 m i + chF sh k2 i := by simp only [suF]; rw [if_pos (by omega)]
            refine wv_lload dX8_odds_132 rfl ?_
            refine wv_lload dX8_odds_134 rfl ?_
            refine wv_ladd dX8_odds_136 ?_
            rw [lN_add, ← e]
            refine wv_lstore dX8_odds_137 (by decide) ?_
            refine wv_lload dX8_odds_139 rfl ?_
            refine wv_iload_n dX8_odds_141 rfl ?_
            refine wv_iload dX8_odds_142 rfl ?_
            refine wv_isub dX8_odds_144 ?_
            refine wv_i2l dX8_odds_145 ?_
            refine wv_lmul dX8_odds_146 ?_
            refine wv_iload dX8_odds_147 rfl ?_
            refine wv_iconst (v := 1) dX8_odds_149 (by decide) ?_
            refine wv_iadd dX8_odds_150 ?_
            refine wv_i2l dX8_odds_151 ?_
            refine wv_ldiv dX8_odds_152 (by rw [nI_1, nI_l (by omega), lN0 (by omega)]; omega) ?_
            rw [ed]
            refine wv_lstore dX8_odds_153 (by decide) ?_
            refine wv_iinc (v := nI (i + 1)) dX8_odds_155 rfl (nI_1 (i)) (by decide) ?_
            refine wv_goto (tgt := 73) dX8_odds_158 (by decide) ?_
            have := ih (i + 1) (by omega)
            first
              | (have _ := e0; rw [e0] at this; exact wv_le (by simp [wr_leq, wr_s1, wr_s2, wr_wide]) this)
              | (exact wv_le (by simp [wr_leq, wr_s1, wr_s2, wr_wide]) this)
        | succ q iq =>
          intro k2 hk2
          refine wv_iload dX8_odds_86 rfl ?_
          refine wv_iload_n dX8_odds_88 rfl ?_
          refine wv_icmp_ge (tgt := 126) dX8_odds_89 (by decide) (fun h89 => absurd h89 (nI_ge (by omega) (by omega))) (fun h89 => ?_)
          refine wv_lload dX8_odds_92 rfl ?_
          refine wv_iload dX8_odds_94 rfl ?_
          refine wv_iload dX8_odds_96 rfl ?_
          refine wv_icmp_ge (tgt := 112) dX8_odds_98 (by decide) (fun h98 => ?_) (fun h98 => ?_)
          · rw [nI_leI (by omega) (by omega)] at h98
            have e : lN (bin c i * ((10 - sh) ^ (min k2 i) * sh ^ (k2 - i))) * (J 55 33).toInt64 = lN (bin c i * ((10 - sh) ^ (min (k2 + 1) i) * sh ^ (k2 + 1 - i))) := by
              rw [hys, nI_l (by omega), lN_mul, show min k2 i = i by omega, show min (k2 + 1) i = i by omega, show k2 + 1 - i = k2 - i + 1 by omega, Nat.pow_succ sh, Nat.mul_assoc, Nat.mul_assoc]
            refine wv_aload_n dX8_odds_112 rfl ?_
            refine wv_getI fX8_363 dX8_odds_113 rfl (by first | assumption | rfl) ?_
            refine wv_i2l dX8_odds_116 ?_
            refine wv_lmul dX8_odds_117 ?_
            rw [e]
            refine wv_lstore dX8_odds_118 (by decide) ?_
            refine wv_iinc (v := nI (k2 + 1)) dX8_odds_120 rfl (nI_1 (k2)) (by decide) ?_
            refine wv_goto (tgt := 86) dX8_odds_123 (by decide) ?_
            exact wv_le (by simp [wr_leq, wr_s1, wr_s2, wr_wide]) (iq (k2 + 1) (by omega))
          · rw [nI_leI (by omega) (by omega)] at h98
            have e : lN (bin c i * ((10 - sh) ^ (min k2 i) * sh ^ (k2 - i))) * ((10 : Int32) - J 55 33).toInt64 = lN (bin c i * ((10 - sh) ^ (min (k2 + 1) i) * sh ^ (k2 + 1 - i))) := by
              rw [hys, e10, nI_l (by omega), lN_mul, show min k2 i = k2 by omega, show min (k2 + 1) i = k2 + 1 by omega, show k2 + 1 - i = 0 by omega, show k2 - i = 0 by omega, Nat.pow_succ, Nat.pow_zero, Nat.mul_one, Nat.mul_one, Nat.mul_assoc]
            refine wv_bipush (v := 10) dX8_odds_101 (by decide) ?_
            refine wv_aload_n dX8_odds_103 rfl ?_
            refine wv_getI fX8_363 dX8_odds_104 rfl (by first | assumption | rfl) ?_
            refine wv_isub dX8_odds_107 ?_
            refine wv_i2l dX8_odds_108 ?_
            refine wv_goto (tgt := 117) dX8_odds_109 (by decide) ?_
            refine wv_lmul dX8_odds_117 ?_
            rw [e]
            refine wv_lstore dX8_odds_118 (by decide) ?_
            refine wv_iinc (v := nI (k2 + 1)) dX8_odds_120 rfl (nI_1 (k2)) (by decide) ?_
            refine wv_goto (tgt := 86) dX8_odds_123 (by decide) ?_
            exact wv_le (by simp [wr_leq, wr_s1, wr_s2, wr_wide]) (iq (k2 + 1) (by omega))
      refine wv_iload dX8_odds_73 rfl ?_
      refine wv_iload_n dX8_odds_75 rfl ?_
      refine wv_icmp_gt (tgt := 161) dX8_odds_76 (by decide) (fun h76 => absurd h76 (nI_nlt (by omega) (by omega))) (fun h76 => ?_)
      refine wv_lload dX8_odds_79 rfl ?_
      refine wv_lstore dX8_odds_81 (by decide) ?_
      refine wv_iconst (v := nI 0) dX8_odds_83 rfl ?_
      refine wv_istore dX8_odds_84 (by decide) ?_
      have := lk c 0 (by omega)
      simp only [Nat.zero_min, Nat.zero_sub, Nat.pow_zero, Nat.mul_one] at this
      exact wv_le (by simp [wr_leq, wr_s1, wr_s2, wr_wide]) this
  have la : ∀ (k i : Nat), i + k = c → wr_V l 6 mX8_odds 44 [some (.ref 55), some (.int (nI m)), some (.int part), some (.int (nI c)), some (.long (lN (10 ^ i))), none, some (.int (nI i)), none, none, none, none, none, none, none] [] SH J L R 0 0 (fun v s' I' L' R' => v = some (.long (if part = 0 then lN (suF sh c m 16 / Nat.gcd (suF sh c m 16) (10 ^ c)) else lN (10 ^ c / Nat.gcd (suF sh c m 16) (10 ^ c)))) ∧ s' = SH ∧ I' = J ∧ R' = R ∧ L' = L) := by
    intro k
    induction k with
    | zero =>
      intro i hi
      obtain rfl : i = c := by omega
      refine wv_iload dX8_odds_44 rfl ?_
      refine wv_iload_n dX8_odds_46 rfl ?_
      refine wv_icmp_ge (tgt := 64) dX8_odds_47 (by decide) (fun h47 => ?_) (fun h47 => absurd (Int32.le_refl _) h47)
      refine wv_lconst (v := 0) dX8_odds_64 (by decide) ?_
      refine wv_lstore dX8_odds_65 (by decide) ?_
      refine wv_lconst (v := 1) dX8_odds_67 (by decide) ?_
      refine wv_lstore dX8_odds_68 (by decide) ?_
      refine wv_iconst (v := nI 0) dX8_odds_70 rfl ?_
      refine wv_istore dX8_odds_71 (by decide) ?_
      have := lj (i + 1) 0 (by omega)
      rw [show suF sh i m 0 = 0 from rfl, show bin i 0 = 1 by cases i <;> rfl] at this
      exact wv_le (by simp [wr_leq, wr_s1, wr_s2, wr_wide]; exact ⟨rfl, rfl⟩) this
    | succ k ih =>
      intro i hi
      refine wv_iload dX8_odds_44 rfl ?_
      refine wv_iload_n dX8_odds_46 rfl ?_
      refine wv_icmp_ge (tgt := 64) dX8_odds_47 (by decide) (fun h47 => absurd h47 (nI_ge (by omega) (by omega))) (fun h47 => ?_)
      refine wv_lload dX8_odds_50 rfl ?_
      refine wv_ldc2_w nX8_467 dX8_odds_52 ?_
      refine wv_lmul dX8_odds_55 ?_
      rw [show (10 : Int64) = lN 10 from rfl, lN_mul, ← Nat.pow_succ]
      refine wv_lstore dX8_odds_56 (by decide) ?_
      refine wv_iinc (v := nI (i + 1)) dX8_odds_58 rfl (nI_1 (i)) (by decide) ?_
      refine wv_goto (tgt := 44) dX8_odds_61 (by decide) ?_
      exact wv_le (by simp [wr_leq, wr_s1, wr_s2, wr_wide]) (ih (i + 1) (by omega))
  exact la c 0 (by omega)
set_option maxHeartbeats 4000000 in
set_option maxRecDepth 100000 in
theorem xW_odds {l : Launch} {I : wr_TI} {L : wr_TL} {R : wr_TR} (hR : wr_RC R) (g : RG) (F : FS) (ok : gOK g) (hg : mgV I g) (hF : mcF I F) (hz : mZ I) (m part : Int32) : wr_P l 6 mX8_odds [.ref 55, .int m, .int part] SH I L R (fun v s' I' L' R' => v = some (.long (aOdds (gSn g) (gWd g F.1) m part)) ∧ s' = SH ∧ L' = L ∧ R' = R ∧ mcF I' F ∧ mZ I' ∧ frB I I') := by
  obtain ⟨k6, k40, -, -, kup, kre, kse, hsp, -⟩ := id ok
  obtain ⟨sh, hsh0, hsh⟩ := ix_of (x := gSh g) (n := 10) ⟨hsp.1, by have := hsp.2; show gSh g < (10 : Int32); grind⟩ (by omega)
  have esn : gSn g = sh := by unfold gSn; rw [hsh, tN_nI (by omega)]
  have hw : gWd g F.1 ≤ gN g := cn_le _ _
  refine wv_pad 11 ?_
  show wr_V l 6 mX8_odds 0 [some (.ref 55), some (.int m), some (.int part), none, none, none, none, none, none, none, none, none, none, none] [] SH I L R 0 0 _
  refine wv_iload_n dX8_odds_0 rfl ?_
  refine wv_if_lt (tgt := 19) dX8_odds_1 (by decide) (fun h1 => ?_) (fun h1 => ?_)
  · refine wv_ldc2_w nX8_463 dX8_odds_19 ?_
    refine wv_lret rfl dX8_odds_22 ?_
    refine ⟨?_, rfl, rfl, rfl, hF, hz, frB_rf⟩
    unfold aOdds
    rw [if_neg]
    grind
  · refine wv_iload_n dX8_odds_4 rfl ?_
    refine wv_bipush (v := 40) dX8_odds_5 (by decide) ?_
    refine wv_icmp_gt (tgt := 19) dX8_odds_7 (by decide) (fun h7 => ?_) (fun h7 => ?_)
    · refine wv_ldc2_w nX8_463 dX8_odds_19 ?_
      refine wv_lret rfl dX8_odds_22 ?_
      refine ⟨?_, rfl, rfl, rfl, hF, hz, frB_rf⟩
      unfold aOdds
      rw [if_neg]
      grind
    · refine wv_iload_n dX8_odds_10 rfl ?_
      refine wv_if_lt (tgt := 19) dX8_odds_11 (by decide) (fun h11 => ?_) (fun h11 => ?_)
      · refine wv_ldc2_w nX8_463 dX8_odds_19 ?_
        refine wv_lret rfl dX8_odds_22 ?_
        refine ⟨?_, rfl, rfl, rfl, hF, hz, frB_rf⟩
        unfold aOdds
        rw [if_neg]
        grind
      · refine wv_iload_n dX8_odds_14 rfl ?_
        refine wv_iconst (v := 1) dX8_odds_15 (by decide) ?_
        refine wv_icmp_le (tgt := 23) dX8_odds_16 (by decide) (fun h16 => ?_) (fun h16 => ?_)
        · have hp : (0 ≤ m ∧ m ≤ 40) ∧ (0 ≤ part ∧ part ≤ 1) := ⟨⟨Int32.not_lt.mp h1, Int32.not_lt.mp h7⟩, Int32.not_lt.mp h11, h16⟩
          obtain ⟨a, ha, rfl⟩ := ix_of (x := m) (n := 41) ⟨hp.1.1, by have := hp.1.2; show m < (41 : Int32); grind⟩ (by omega)
          refine wv_aload_n dX8_odds_23 rfl ?_
          refine wv_v0 oX8_wouldRise kX8_438 dX8_odds_24 (by omega) (by first | assumption | rfl) ⟨rfl, by decide⟩ (Nat.le_of_ble_eq_true rfl) (Nat.le_of_ble_eq_true rfl) (x_wouldRise hR g F.1 ok hg hF.1 hz) (fun v9 s9 J9 L9 R9 h9 => ?_)
          obtain ⟨rfl, rfl, rfl, rfl, hf9, j75, j76, j80, j55⟩ := h9
          have hF9 : mcF J9 F := ⟨mcV_fr hF.1 j75 j76 (by rw [j55]) (by rw [j55]), by rw [j80]; exact hF.2.1, by rw [j55]; exact hF.2.2⟩
          rw [show aWould g F.1 = nI (gWd g F.1) from rfl]
          refine wv_istore_k (i := 3) dX8_odds_27 rfl (by decide) ?_
          refine wv_iload_n dX8_odds_28 rfl ?_
          refine wv_bipush (v := 15) dX8_odds_29 (by decide) ?_
          refine wv_icmp_le (tgt := 38) dX8_odds_31 (by decide) (fun h31 => ?_) (fun h31 => ?_)
          · have hw15 := (nI_leI (b := 15) (by omega) (by omega)).mp h31
            refine wv_lconst (v := 1) dX8_odds_38 (by decide) ?_
            refine wv_lstore dX8_odds_39 (by decide) ?_
            refine wv_iconst (v := nI 0) dX8_odds_41 rfl ?_
            refine wv_istore dX8_odds_42 (by decide) ?_
            have hq := x_oddsL (l := l) (L := L9) hR J9 sh (gWd g F.1) a part hw15 (by omega) (by omega) (by rw [j55, ← hsh]; exact hg.2.2.2.2.2.2.2.2.2.1)
            refine wr_V.imp (wv_le (by simp [wr_leq, wr_s1, wr_s2, wr_wide]; rfl) hq) (fun v s' I' L' R' h => ?_)
            obtain ⟨rfl, rfl, rfl, rfl, rfl⟩ := h
            refine ⟨?_, rfl, rfl, rfl, hF9, frS_z hf9 hz, frB_S hf9⟩
            unfold aOdds
            rw [if_pos hp, if_neg (show ¬ 15 < gWd g F.1 by omega), esn, tN_nI (by omega)]
          · have hw15 : ¬ gWd g F.1 ≤ 15 := fun z => h31 (nI_le (b := 15) z (by omega))
            refine wv_ldc2_w nX8_465 dX8_odds_34 ?_
            refine wv_lret rfl dX8_odds_37 ?_
            refine ⟨?_, rfl, rfl, rfl, hF9, frS_z hf9 hz, frB_S hf9⟩
            unfold aOdds
            rw [if_pos hp, if_pos (by omega)]
        · refine wv_ldc2_w nX8_463 dX8_odds_19 ?_
          refine wv_lret rfl dX8_odds_22 ?_
          refine ⟨?_, rfl, rfl, rfl, hF, hz, frB_rf⟩
          unfold aOdds
          rw [if_neg]
          grind

