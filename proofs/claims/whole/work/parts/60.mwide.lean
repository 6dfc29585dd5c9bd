/-! the model: waves, wide, meet -/
set_option maxHeartbeats 4000000 in
set_option maxRecDepth 100000 in
theorem x_waveMany {l : Launch} {I : wr_TI} {L : wr_TL} {R : wr_TR} (hR : wr_RC R) (g : RG) (S : SS) (ok : gOK g) (hg : mgV I g) (hS : mcV I S) : wr_E l 1 mX8_waveMany [.ref 55] SH I L R (some (.int (wvA (gN g) (uS S)))) I L R := by
  obtain ⟨k6, k40, -⟩ := id ok
  have hn : I 55 28 = nI (gN g) := hg.1
  have hu : ∀ s, s < gN g → isU (I 75 s) = uS S s := fun s hs => by rw [hS.1 s (by omega)]; rfl
  have lp : ∀ (k i : Nat), i + k = gN g → wr_V l 1 mX8_waveMany 4 [some (.ref 55), some (.int (nI (cn (fun s => uS S s && !uS S ((s + gN g - 1) % gN g)) i))), some (.int (nI i))] [] SH I L R 0 0 (wr_EQ (some (.int (wvA (gN g) (uS S)))) SH I L R) := by
    intro k
    induction k with
    | zero =>
      intro i hi
      obtain rfl : i = gN g := by omega
      have hc : cn (fun s => uS S s && !uS S ((s + gN g - 1) % gN g)) (gN g) < 2 ^ 31 := by have := cn_le (fun s => uS S s && !uS S ((s + gN g - 1) % gN g)) (gN g); omega
      have h0 := hu 0 (by omega)
      refine wv_iload_n dX8_waveMany_4 rfl ?_
      refine wv_aload_n dX8_waveMany_5 rfl ?_
      refine wv_getI fX8_151 dX8_waveMany_6 rfl (by first | assumption | rfl) ?_
      refine wv_icmp_ge (tgt := 56) dX8_waveMany_9 (by decide) (fun h9 => ?_) (fun h9 => absurd (by rw [hn]; exact Int32.le_refl _) h9)
      refine wv_iload_n dX8_waveMany_56 rfl ?_
      refine wv_if_ne (tgt := 76) dX8_waveMany_57 (by decide) (fun h57 => ?_) (fun h57 => ?_)
      · have hz : ¬ wvN (gN g) (uS S) = 0 := fun q => h57 (by show nI (wvN (gN g) (uS S)) = 0; rw [q]; rfl)
        refine wv_iload_n dX8_waveMany_76 rfl ?_
        refine wv_iret rfl dX8_waveMany_77 ?_
        refine ⟨?_, rfl, rfl, rfl, rfl⟩
        unfold wvA
        first | (rw [if_pos ⟨hz, h69⟩]; done) | (rw [if_neg (fun q => hz q.1)]; rfl) | (rw [if_neg (fun q => h69 q.2)]; rfl)
      · have hz : wvN (gN g) (uS S) = 0 := (nI_eq (b := 0) hc (by omega)).mp h57
        refine wv_aload_n dX8_waveMany_60 rfl ?_
        refine wv_getR fX8_72 dX8_waveMany_61 rfl (by first | assumption | rfl) (by first | exact hR _ _ _ rfl | assumption) ?_
        refine wv_iconst (v := 0) dX8_waveMany_64 (by decide) ?_
        refine wv_ialdK (k := 0) dX8_waveMany_65 (by first | assumption | rfl) (by decide) (by unfold vp_in; decide) ?_
        refine wv_s1e oX8_isUp kX8_393 dX8_waveMany_66 (by omega) (Nat.le_of_ble_eq_true rfl) (Nat.le_of_ble_eq_true rfl) (x_isUp _) ?_
        refine wv_if_eq (tgt := 76) dX8_waveMany_69 (by decide) (fun h69 => ?_) (fun h69 => ?_)
        · rw [if10, h0] at h69
          refine wv_iload_n dX8_waveMany_76 rfl ?_
          refine wv_iret rfl dX8_waveMany_77 ?_
          refine ⟨?_, rfl, rfl, rfl, rfl⟩
          unfold wvA
          first | (rw [if_pos ⟨hz, h69⟩]; done) | (rw [if_neg (fun q => hz q.1)]; rfl) | (rw [if_neg (fun q => h69 q.2)]; rfl)
        · rw [if10, Decidable.not_not, h0] at h69
          refine wv_iconst (v := 1) dX8_waveMany_72 (by decide) ?_
          refine wv_goto (tgt := 77) dX8_waveMany_73 (by decide) ?_
          refine wv_iret rfl dX8_waveMany_77 ?_
          refine ⟨?_, rfl, rfl, rfl, rfl⟩
          unfold wvA
          first | (rw [if_pos ⟨hz, h69⟩]; done) | (rw [if_neg (fun q => hz q.1)]; rfl) | (rw [if_neg (fun q => h69 q.2)]; rfl)
    | succ k ih =>
      intro i hi
      have hm := Nat.mod_lt (i + gN g - 1) (by omega : 0 < gN g)
      have e1 := hu i (by omega)
      have e2 := hu _ hm
      have ew : nI i - 1 = nI i + (-1) * nI 1 := by
        rw [show nI 1 = (1 : Int32) from rfl]
        generalize nI i = z
        grind
      refine wv_iload_n dX8_waveMany_4 rfl ?_
      refine wv_aload_n dX8_waveMany_5 rfl ?_
      refine wv_getI fX8_151 dX8_waveMany_6 rfl (by first | assumption | rfl) ?_
      refine wv_icmp_ge (tgt := 56) dX8_waveMany_9 (by decide) (fun h9 => absurd h9 (by rw [hn]; exact nI_ge (by omega) (by omega))) (fun h9 => ?_)
      refine wv_iload_n dX8_waveMany_12 rfl ?_
      refine wv_aload_n dX8_waveMany_13 rfl ?_
      refine wv_getR fX8_72 dX8_waveMany_14 rfl (by first | assumption | rfl) (by first | exact hR _ _ _ rfl | assumption) ?_
      refine wv_iload_n dX8_waveMany_17 rfl ?_
      refine wv_ialdN dX8_waveMany_18 (by first | assumption | rfl) (by omega) (by decide) ?_
      refine wv_s1e oX8_isUp kX8_393 dX8_waveMany_19 (by omega) (Nat.le_of_ble_eq_true rfl) (Nat.le_of_ble_eq_true rfl) (x_isUp _) ?_
      refine wv_if_eq (tgt := 47) dX8_waveMany_22 (by decide) (fun h22 => ?_) (fun h22 => ?_)
      · rw [if10, e1] at h22
        have e : nI (cn (fun s => uS S s && !uS S ((s + gN g - 1) % gN g)) i) + 0 = nI (cn (fun s => uS S s && !uS S ((s + gN g - 1) % gN g)) (i + 1)) := by simp [cn, h22]
        refine wv_iconst (v := 0) dX8_waveMany_47 (by decide) ?_
        refine wv_iadd dX8_waveMany_48 ?_
        rw [e]
        refine wv_istore_k (i := 1) dX8_waveMany_49 rfl (by decide) ?_
        refine wv_iinc (v := nI (i + 1)) dX8_waveMany_50 rfl (nI_1 (i)) (by decide) ?_
        refine wv_goto (tgt := 4) dX8_waveMany_53 (by decide) ?_
        exact wv_le (by simp [wr_leq, wr_s1, wr_s2, wr_wide]) (ih (i + 1) (by omega))
      · rw [if10, Decidable.not_not, e1] at h22
        refine wv_aload_n dX8_waveMany_25 rfl ?_
        refine wv_getR fX8_72 dX8_waveMany_26 rfl (by first | assumption | rfl) (by first | exact hR _ _ _ rfl | assumption) ?_
        refine wv_aload_n dX8_waveMany_29 rfl ?_
        refine wv_iload_n dX8_waveMany_30 rfl ?_
        refine wv_iconst (v := 1) dX8_waveMany_31 (by decide) ?_
        refine wv_isub dX8_waveMany_32 ?_
        rw [ew]
        refine wv_v1e oX8_wrap kX8_396 dX8_waveMany_33 (by omega) (by first | assumption | rfl) ⟨rfl, by decide⟩ (Nat.le_of_ble_eq_true rfl) (Nat.le_of_ble_eq_true rfl) (x_wrapS (gN g) i 1 hn k40 (by omega) (by omega)) ?_
        refine wv_ialdN dX8_waveMany_36 (by first | assumption | rfl) (by omega) (by decide) ?_
        refine wv_s1e oX8_isUp kX8_393 dX8_waveMany_37 (by omega) (Nat.le_of_ble_eq_true rfl) (Nat.le_of_ble_eq_true rfl) (x_isUp _) ?_
        refine wv_if_ne (tgt := 47) dX8_waveMany_40 (by decide) (fun h40 => ?_) (fun h40 => ?_)
        · rw [if10, Decidable.not_not, e2] at h40
          have e : nI (cn (fun s => uS S s && !uS S ((s + gN g - 1) % gN g)) i) + 0 = nI (cn (fun s => uS S s && !uS S ((s + gN g - 1) % gN g)) (i + 1)) := by simp [cn, h40]
          refine wv_iconst (v := 0) dX8_waveMany_47 (by decide) ?_
          refine wv_iadd dX8_waveMany_48 ?_
          rw [e]
          refine wv_istore_k (i := 1) dX8_waveMany_49 rfl (by decide) ?_
          refine wv_iinc (v := nI (i + 1)) dX8_waveMany_50 rfl (nI_1 (i)) (by decide) ?_
          refine wv_goto (tgt := 4) dX8_waveMany_53 (by decide) ?_
          exact wv_le (by simp [wr_leq, wr_s1, wr_s2, wr_wide]) (ih (i + 1) (by omega))
        · rw [if10, e2] at h40
          have e : nI (cn (fun s => uS S s && !uS S ((s + gN g - 1) % gN g)) i) + 1 = nI (cn (fun s => uS S s && !uS S ((s + gN g - 1) % gN g)) (i + 1)) := by simp [cn, h22, h40]; exact nI_1 _
          refine wv_iconst (v := 1) dX8_waveMany_43 (by decide) ?_
          refine wv_goto (tgt := 48) dX8_waveMany_44 (by decide) ?_
          refine wv_iadd dX8_waveMany_48 ?_
          rw [e]
          refine wv_istore_k (i := 1) dX8_waveMany_49 rfl (by decide) ?_
          refine wv_iinc (v := nI (i + 1)) dX8_waveMany_50 rfl (nI_1 (i)) (by decide) ?_
          refine wv_goto (tgt := 4) dX8_waveMany_53 (by decide) ?_
          exact wv_le (by simp [wr_leq, wr_s1, wr_s2, wr_wide]) (ih (i + 1) (by omega))
  refine wv_pad 2 ?_
  show wr_V l 1 mX8_waveMany 0 [some (.ref 55), none, none] [] SH I L R 0 0 _
  refine wv_iconst (v := nI (cn (fun s => uS S s && !uS S ((s + gN g - 1) % gN g)) 0)) dX8_waveMany_0 rfl ?_
  refine wv_istore_k (i := 1) dX8_waveMany_1 rfl (by decide) ?_
  refine wv_iconst (v := nI 0) dX8_waveMany_2 rfl ?_
  refine wv_istore_k (i := 2) dX8_waveMany_3 rfl (by decide) ?_
  exact wv_le (by simp [wr_leq, wr_s1, wr_s2, wr_wide]) (lp (gN g) 0 (by omega))

set_option maxHeartbeats 4000000 in
set_option maxRecDepth 100000 in
theorem xW_waves {l : Launch} {I : wr_TI} {L : wr_TL} {R : wr_TR} (hR : wr_RC R) (g : RG) (S : SS) (ok : gOK g) (hg : mgV I g) (hS : mcV I S) : wr_E l 2 mX8_waves [.ref 55] SH I L R (some (.int (wvA (gN g) (uS S)))) I L R := by
  refine wv_pad 0 ?_
  show wr_V l 2 mX8_waves 0 [some (.ref 55)] [] SH I L R 0 0 _
  refine wv_aload_n dX8_waves_0 rfl ?_
  refine wv_v0e oX8_waveMany kX8_441 dX8_waves_1 (by omega) (by first | assumption | rfl) ⟨rfl, by decide⟩ (Nat.le_of_ble_eq_true rfl) (Nat.le_of_ble_eq_true rfl) (x_waveMany hR g S ok hg hS) ?_
  refine wv_iret rfl dX8_waves_4 ?_
  exact ⟨rfl, rfl, rfl, rfl, rfl⟩

def cw (v : Nat → Bool) : Nat → Nat
  | 0 => 0
  | j + 1 => if v j = true then cw v j + 1 else 0
def mx (v : Nat → Bool) : Nat → Nat
  | 0 => 0
  | j + 1 => if mx v j < cw v (j + 1) then cw v (j + 1) else mx v j
theorem cw_le (v : Nat → Bool) : ∀ j, cw v j ≤ j ∧ mx v j ≤ j := by
  intro j
  induction j with
  | zero => simp [cw, mx]
  | succ j ih =>
    have : cw v (j + 1) ≤ j + 1 := by simp only [cw]; split <;> omega
    refine ⟨this, ?_⟩
    simp only [mx]
    split <;> omega
theorem cw_ge (v : Nat → Bool) : ∀ j m, m ≤ cw v j ↔ m ≤ j ∧ ∀ i, i < m → v (j - 1 - i) = true := by
  intro j
  induction j with
  | zero => intro m; simp only [cw]; constructor
            · intro h; exact ⟨h, fun i hi => by omega⟩
            · intro h; exact h.1
  | succ j ih =>
    intro m
    simp only [cw]
    by_cases hv : v j = true
    · rw [if_pos hv]
      cases m with
      | zero => simp
      | succ m =>
        have := ih m
        constructor
        · intro h
          obtain ⟨h1, h2⟩ := this.mp (by omega)
          refine ⟨by omega, fun i hi => ?_⟩
          cases i with
          | zero => simpa using hv
          | succ i => have := h2 i (by omega); rwa [show j + 1 - 1 - (i + 1) = j - 1 - i by omega]
        · intro h
          have := this.mpr ⟨by omega, fun i hi => by have := h.2 (i + 1) (by omega); rwa [show j + 1 - 1 - (i + 1) = j - 1 - i by omega] at this⟩
          omega
    · rw [if_neg hv]
      constructor
      · intro h
        have : m = 0 := by omega
        subst this
        exact ⟨by omega, fun i hi => by omega⟩
      · intro h
        rcases Nat.eq_zero_or_pos m with h0 | h0
        · omega
        · have := h.2 0 h0
          simp at this
          exact absurd this hv
theorem mx_ge (v : Nat → Bool) {m : Nat} (h0 : 0 < m) : ∀ j, m ≤ mx v j ↔ ∃ i, i ≤ j ∧ m ≤ cw v i := by
  intro j
  induction j with
  | zero =>
    simp only [mx]
    constructor
    · intro h; omega
    · intro ⟨i, hi, h⟩
      have : i = 0 := by omega
      subst this
      simp [cw] at h
      omega
  | succ j ih =>
    constructor
    · intro h
      simp only [mx] at h
      split at h
      · exact ⟨j + 1, Nat.le_refl _, h⟩
      · obtain ⟨i, h1, h2⟩ := ih.mp h
        exact ⟨i, by omega, h2⟩
    · intro ⟨i, h1, h2⟩
      simp only [mx]
      by_cases hij : i = j + 1
      · subst hij
        split <;> omega
      · have := ih.mpr ⟨i, by omega, h2⟩
        split <;> omega
theorem rn_iff {n : Nat} {u : Nat → Bool} (hn : 0 < n) : ∀ k s, s < n → k < n → (rn n u k s = true ↔ ∀ i, i ≤ k → u ((s + n - i) % n) = true) := by
  intro k
  induction k with
  | zero =>
    intro s hs _
    simp only [rn]
    constructor
    · intro h i hi
      have : i = 0 := by omega
      subst this
      rw [Nat.sub_zero, Nat.add_mod_right, Nat.mod_eq_of_lt hs]
      exact h
    · intro h
      have := h 0 (Nat.le_refl _)
      rwa [Nat.sub_zero, Nat.add_mod_right, Nat.mod_eq_of_lt hs] at this
  | succ k ih =>
    intro s hs hk
    have e : ∀ i, i ≤ k → ((s + n - 1) % n + n - i) % n = (s + n - (i + 1)) % n := by
      intro i hi
      rw [show (s + n - 1) % n + n - i = (s + n - 1) % n + (n - i) by omega, Nat.mod_add_mod, show s + n - 1 + (n - i) = s + n - (i + 1) + n by omega, Nat.add_mod_right]
    simp only [rn, Bool.and_eq_true]
    rw [ih s hs (by omega), ih _ (Nat.mod_lt _ hn) (by omega)]
    constructor
    · intro ⟨h1, h2⟩ i hi
      rcases Nat.lt_or_ge i (k + 1) with q | q
      · exact h1 i (by omega)
      · have := h2 k (Nat.le_refl _)
        rw [e k (Nat.le_refl _)] at this
        rwa [show i = k + 1 by omega]
    · intro h
      refine ⟨fun i hi => h i (by omega), fun i hi => ?_⟩
      rw [e i hi]
      exact h (i + 1) (by omega)
theorem rn_mx {n : Nat} {u : Nat → Bool} (hn : 0 < n) {k : Nat} (hk : k < n) : cn (rn n u k) n = 0 ↔ mx (fun j => u (j % n)) (2 * n) ≤ k := by
  rw [cn_pos]
  constructor
  · intro h
    apply Nat.le_of_not_lt
    intro hlt
    obtain ⟨i, h1, h2⟩ := (mx_ge (fun j => u (j % n)) (m := k + 1) (by omega) (2 * n)).mp hlt
    obtain ⟨h3, h4⟩ := (cw_ge _ i (k + 1)).mp h2
    have hm := Nat.mod_lt (i - 1) hn
    have := h ((i - 1) % n) hm
    have ht : rn n u k ((i - 1) % n) = true := by
      rw [rn_iff hn k _ hm hk]
      intro j hj
      have h5 := h4 j (by omega)
      rw [show (i - 1) % n + n - j = (i - 1) % n + (n - j) by omega, Nat.mod_add_mod, show i - 1 + (n - j) = i - 1 - j + n by omega, Nat.add_mod_right]
      exact h5
    rw [this] at ht
    cases ht
  · intro h s hs
    cases hr : rn n u k s with
    | false => rfl
    | true =>
      exfalso
      rw [rn_iff hn k s hs hk] at hr
      have h2 : k + 1 ≤ cw (fun j => u (j % n)) (s + n + 1) := by
        rw [cw_ge]
        refine ⟨by omega, fun i hi => ?_⟩
        rw [show s + n + 1 - 1 - i = s + n - i by omega]
        exact hr i (by omega)
      have := (mx_ge (fun j => u (j % n)) (m := k + 1) (by omega) (2 * n)).mpr ⟨s + n + 1, by omega, h2⟩
      omega
theorem wdC_mx {n : Nat} {u : Nat → Bool} (hn : 0 < n) : ∀ r k, r + k = n → k ≤ mx (fun j => u (j % n)) (2 * n) → wdC n u r k = min n (mx (fun j => u (j % n)) (2 * n)) := by
  intro r
  induction r with
  | zero => intro k h1 h2; simp only [wdC]; omega
  | succ r ih =>
    intro k h1 h2
    simp only [wdC]
    by_cases hc : cn (rn n u k) n = 0
    · rw [if_pos hc]
      have := (rn_mx hn (by omega)).mp hc
      omega
    · rw [if_neg hc]
      have h3 : ¬ mx (fun j => u (j % n)) (2 * n) ≤ k := fun q => hc ((rn_mx hn (by omega)).mpr q)
      exact ih (k + 1) (by omega) (by omega)
set_option maxHeartbeats 4000000 in
set_option maxRecDepth 100000 in
theorem xW_wide {l : Launch} {I : wr_TI} {L : wr_TL} {R : wr_TR} (hR : wr_RC R) (g : RG) (S : SS) (ok : gOK g) (hg : mgV I g) (hS : mcV I S) : wr_E l 1 mX8_wide [.ref 55] SH I L R (some (.int (aWide g S))) I L R := by
  obtain ⟨k6, k40, -⟩ := id ok
  have hn : I 55 28 = nI (gN g) := hg.1
  have e2n : 2 * nI (gN g) = nI (2 * gN g) := by
    rw [show 2 * gN g = gN g + gN g by omega, ← nI_add]
    generalize nI (gN g) = z
    grind
  have hcl := cw_le (fun j => uS S (j % gN g))
  have eans : aWide g S = nI (min (gN g) (mx (fun j => uS S (j % gN g)) (2 * gN g))) := by unfold aWide; rw [wdC_mx (by omega) (gN g) 0 (by omega) (by omega)]
  have lp : ∀ (k i : Nat), i + k = 2 * gN g → wr_V l 1 mX8_wide 6 [some (.ref 55), some (.int (nI (mx (fun j => uS S (j % gN g)) i))), some (.int (nI (cw (fun j => uS S (j % gN g)) i))), some (.int (nI i))] [] SH I L R 0 0 (wr_EQ (some (.int (aWide g S))) SH I L R) := by
    intro k
    induction k with
    | zero =>
      intro i hi
      obtain rfl : i = 2 * gN g := by omega
      have h9 := (hcl (2 * gN g)).2
      refine wv_iload_n dX8_wide_6 rfl ?_
      refine wv_iconst (v := 2) dX8_wide_7 (by decide) ?_
      refine wv_aload_n dX8_wide_8 rfl ?_
      refine wv_getI fX8_151 dX8_wide_9 rfl (by first | assumption | rfl) ?_
      refine wv_imul dX8_wide_12 ?_
      rw [hn, e2n]
      refine wv_icmp_ge (tgt := 58) dX8_wide_13 (by decide) (fun h13 => ?_) (fun h13 => absurd (Int32.le_refl _) h13)
      refine wv_iload_n dX8_wide_58 rfl ?_
      refine wv_aload_n dX8_wide_59 rfl ?_
      refine wv_getI fX8_151 dX8_wide_60 rfl (by first | assumption | rfl) ?_
      rw [hn]
      refine wv_icmp_le (tgt := 73) dX8_wide_63 (by decide) (fun h63 => ?_) (fun h63 => ?_)
      · have h8 := (nI_leI (by omega) (by omega)).mp h63
        refine wv_iload_n dX8_wide_73 rfl ?_
        refine wv_iret rfl dX8_wide_74 ?_
        refine ⟨?_, rfl, rfl, rfl, rfl⟩
        rw [eans]
        first | (rw [Nat.min_eq_right h8]) | (rw [hn, Nat.min_eq_left (by omega)])
      · have h8 : ¬ mx (fun j => uS S (j % gN g)) (2 * gN g) ≤ gN g := fun q => h63 (nI_le q (by omega))
        refine wv_aload_n dX8_wide_66 rfl ?_
        refine wv_getI fX8_151 dX8_wide_67 rfl (by first | assumption | rfl) ?_
        refine wv_goto (tgt := 74) dX8_wide_70 (by decide) ?_
        refine wv_iret rfl dX8_wide_74 ?_
        refine ⟨?_, rfl, rfl, rfl, rfl⟩
        rw [eans]
        first | (rw [Nat.min_eq_right h8]) | (rw [hn, Nat.min_eq_left (by omega)])
    | succ k ih =>
      intro i hi
      have hm := Nat.mod_lt i (by omega : 0 < gN g)
      have h8 := hcl i
      have h9 := hcl (i + 1)
      have e1 : isU (I 75 (i % gN g)) = uS S (i % gN g) := by rw [hS.1 _ (by omega)]; rfl
      refine wv_iload_n dX8_wide_6 rfl ?_
      refine wv_iconst (v := 2) dX8_wide_7 (by decide) ?_
      refine wv_aload_n dX8_wide_8 rfl ?_
      refine wv_getI fX8_151 dX8_wide_9 rfl (by first | assumption | rfl) ?_
      refine wv_imul dX8_wide_12 ?_
      rw [hn, e2n]
      refine wv_icmp_ge (tgt := 58) dX8_wide_13 (by decide) (fun h13 => absurd h13 (nI_ge (by omega) (by omega))) (fun h13 => ?_)
      refine wv_aload_n dX8_wide_16 rfl ?_
      refine wv_getR fX8_72 dX8_wide_17 rfl (by first | assumption | rfl) (by first | exact hR _ _ _ rfl | assumption) ?_
      refine wv_iload_n dX8_wide_20 rfl ?_
      refine wv_aload_n dX8_wide_21 rfl ?_
      refine wv_getI fX8_151 dX8_wide_22 rfl (by first | assumption | rfl) ?_
      refine wv_irem dX8_wide_25 (by rw [hn]; exact nI_ne0 (by omega) (by omega)) ?_
      rw [hn, rem_of rfl (by omega) (by omega) (by omega)]
      refine wv_ialdN dX8_wide_26 (by first | assumption | rfl) (by omega) (by decide) ?_
      refine wv_s1e oX8_isUp kX8_393 dX8_wide_27 (by omega) (Nat.le_of_ble_eq_true rfl) (Nat.le_of_ble_eq_true rfl) (x_isUp _) ?_
      refine wv_if_eq (tgt := 39) dX8_wide_30 (by decide) (fun h30 => ?_) (fun h30 => ?_)
      · rw [if10, e1] at h30
        have ec : nI (cw (fun j => uS S (j % gN g)) (i + 1)) = 0 := by simp [cw, h30]; rfl
        refine wv_iconst (v := 0) dX8_wide_39 (by decide) ?_
        rw [← ec]
        refine wv_istore_k (i := 2) dX8_wide_40 rfl (by decide) ?_
        refine wv_iload_n dX8_wide_41 rfl ?_
        refine wv_iload_n dX8_wide_42 rfl ?_
        refine wv_icmp_le (tgt := 50) dX8_wide_43 (by decide) (fun h43 => ?_) (fun h43 => ?_)
        · have h7 := (nI_leI (by omega) (by omega)).mp h43
          have em : mx (fun j => uS S (j % gN g)) (i + 1) = mx (fun j => uS S (j % gN g)) i := by simp only [mx]; rw [if_neg (by omega)]
          refine wv_iload_n dX8_wide_50 rfl ?_
          refine wv_istore_k (i := 1) dX8_wide_51 rfl (by decide) ?_
          refine wv_iinc (v := nI (i + 1)) dX8_wide_52 rfl (nI_1 (i)) (by decide) ?_
          refine wv_goto (tgt := 6) dX8_wide_55 (by decide) ?_
          have := ih (i + 1) (by omega)
          rw [em] at this
          exact wv_le (by simp [wr_leq, wr_s1, wr_s2, wr_wide]) this
        · have h7 : ¬ cw (fun j => uS S (j % gN g)) (i + 1) ≤ mx (fun j => uS S (j % gN g)) i := fun q => h43 (nI_le q (by omega))
          have em : mx (fun j => uS S (j % gN g)) (i + 1) = cw (fun j => uS S (j % gN g)) (i + 1) := by rw [mx, if_pos (by omega)]
          refine wv_iload_n dX8_wide_46 rfl ?_
          refine wv_goto (tgt := 51) dX8_wide_47 (by decide) ?_
          refine wv_istore_k (i := 1) dX8_wide_51 rfl (by decide) ?_
          refine wv_iinc (v := nI (i + 1)) dX8_wide_52 rfl (nI_1 (i)) (by decide) ?_
          refine wv_goto (tgt := 6) dX8_wide_55 (by decide) ?_
          have := ih (i + 1) (by omega)
          rw [em] at this
          exact wv_le (by simp [wr_leq, wr_s1, wr_s2, wr_wide]) this
      · rw [if10, Decidable.not_not, e1] at h30
        have ec : nI (cw (fun j => uS S (j % gN g)) (i + 1)) = nI (cw (fun j => uS S (j % gN g)) i) + 1 := by simp [cw, h30]; exact (nI_1 _).symm
        refine wv_iload_n dX8_wide_33 rfl ?_
        refine wv_iconst (v := 1) dX8_wide_34 (by decide) ?_
        refine wv_iadd dX8_wide_35 ?_
        refine wv_goto (tgt := 40) dX8_wide_36 (by decide) ?_
        rw [← ec]
        refine wv_istore_k (i := 2) dX8_wide_40 rfl (by decide) ?_
        refine wv_iload_n dX8_wide_41 rfl ?_
        refine wv_iload_n dX8_wide_42 rfl ?_
        refine wv_icmp_le (tgt := 50) dX8_wide_43 (by decide) (fun h43 => ?_) (fun h43 => ?_)
        · have h7 := (nI_leI (by omega) (by omega)).mp h43
          have em : mx (fun j => uS S (j % gN g)) (i + 1) = mx (fun j => uS S (j % gN g)) i := by simp only [mx]; rw [if_neg (by omega)]
          refine wv_iload_n dX8_wide_50 rfl ?_
          refine wv_istore_k (i := 1) dX8_wide_51 rfl (by decide) ?_
          refine wv_iinc (v := nI (i + 1)) dX8_wide_52 rfl (nI_1 (i)) (by decide) ?_
          refine wv_goto (tgt := 6) dX8_wide_55 (by decide) ?_
          have := ih (i + 1) (by omega)
          rw [em] at this
          exact wv_le (by simp [wr_leq, wr_s1, wr_s2, wr_wide]) this
        · have h7 : ¬ cw (fun j => uS S (j % gN g)) (i + 1) ≤ mx (fun j => uS S (j % gN g)) i := fun q => h43 (nI_le q (by omega))
          have em : mx (fun j => uS S (j % gN g)) (i + 1) = cw (fun j => uS S (j % gN g)) (i + 1) := by rw [mx, if_pos (by omega)]
          refine wv_iload_n dX8_wide_46 rfl ?_
          refine wv_goto (tgt := 51) dX8_wide_47 (by decide) ?_
          refine wv_istore_k (i := 1) dX8_wide_51 rfl (by decide) ?_
          refine wv_iinc (v := nI (i + 1)) dX8_wide_52 rfl (nI_1 (i)) (by decide) ?_
          refine wv_goto (tgt := 6) dX8_wide_55 (by decide) ?_
          have := ih (i + 1) (by omega)
          rw [em] at this
          exact wv_le (by simp [wr_leq, wr_s1, wr_s2, wr_wide]) this
  refine wv_pad 3 ?_
  show wr_V l 1 mX8_wide 0 [some (.ref 55), none, none, none] [] SH I L R 0 0 _
  refine wv_iconst (v := nI (mx (fun j => uS S (j % gN g)) 0)) dX8_wide_0 rfl ?_
  refine wv_istore_k (i := 1) dX8_wide_1 rfl (by decide) ?_
  refine wv_iconst (v := nI (cw (fun j => uS S (j % gN g)) 0)) dX8_wide_2 rfl ?_
  refine wv_istore_k (i := 2) dX8_wide_3 rfl (by decide) ?_
  refine wv_iconst (v := nI 0) dX8_wide_4 rfl ?_
  refine wv_istore_k (i := 3) dX8_wide_5 rfl (by decide) ?_
  exact wv_le (by simp [wr_leq, wr_s1, wr_s2, wr_wide]) (lp (2 * gN g) 0 (by omega))

set_option maxHeartbeats 4000000 in
set_option maxRecDepth 100000 in
theorem xW_meet {l : Launch} {I : wr_TI} {L : wr_TL} {R : wr_TR} (hR : wr_RC R) (g : RG) (F : FS) (ok : gOK g) (hg : mgV I g) (hF : mcF I F) (hz : mZ I) (x y kk : Int32) : wr_P l 6 mX8_meet [.ref 55, .int x, .int y, .int kk] SH I L R (fun v s' I' L' R' => v = some (.int (aMeet g x y kk)) ∧ s' = SH ∧ L' = L ∧ R' = R ∧ mcF I' F ∧ mZ I' ∧ frB I I') := by
  obtain ⟨k6, k40, -⟩ := id ok
  have hn : I 55 28 = nI (gN g) := hg.1
  have lp : ∀ (k i : Nat) (T : SS) (J : wr_TI), i + k = 60 → mcV J T → mOld J F → mZ J → frB I J → wr_V l 6 mX8_meet 57 [some (.ref 55), none, none, none, none, some (.int (nI i))] [] SH J L R 0 0 (fun v s' I' L' R' => v = some (.int (wvA (gN g) (uS (itS g (gD g) k T)))) ∧ s' = SH ∧ L' = L ∧ R' = R ∧ mcF I' F ∧ mZ I' ∧ frB I I') := by
    intro k
    induction k with
    | zero =>
      intro i T J hi hT hO hzJ hf
      refine wv_iload dX8_meet_57 rfl ?_
      refine wv_bipush (v := 60) dX8_meet_59 (by decide) ?_
      refine wv_icmp_ge (tgt := 77) dX8_meet_61 (by decide) (fun h61 => ?_) (fun h61 => absurd (nI_le (a := 60) (by omega) (by omega)) h61)
      refine wv_aload_n dX8_meet_77 rfl ?_
      refine wv_v0e oX8_waveMany kX8_441 dX8_meet_78 (by omega) (by first | assumption | rfl) ⟨rfl, by decide⟩ (Nat.le_of_ble_eq_true rfl) (Nat.le_of_ble_eq_true rfl) (x_waveMany hR g T ok (frB_g hf hg) hT) ?_
      refine wv_istore dX8_meet_81 (by decide) ?_
      refine wv_aload_n dX8_meet_83 rfl ?_
      refine wv_v0 oX8_bring kX8_447 dX8_meet_84 (by omega) (by first | assumption | rfl) ⟨rfl, by decide⟩ (Nat.le_of_ble_eq_true rfl) (Nat.le_of_ble_eq_true rfl) (x_bring hR) (fun v7 s7 J7 L7 R7 h7 => ?_)
      obtain ⟨rfl, rfl, rfl, rfl, hB, hf7, hz7, b55⟩ := h7
      refine wv_iload dX8_meet_87 rfl ?_
      refine wv_iret rfl dX8_meet_89 ?_
      exact ⟨rfl, rfl, rfl, rfl, hB F hO, hz7, frB_tr hf hf7⟩
    | succ k ih =>
      intro i T J hi hT hO hzJ hf
      refine wv_iload dX8_meet_57 rfl ?_
      refine wv_bipush (v := 60) dX8_meet_59 (by decide) ?_
      refine wv_icmp_ge (tgt := 77) dX8_meet_61 (by decide) (fun h61 => absurd h61 (nI_ge (b := 60) (by omega) (by omega))) (fun h61 => ?_)
      refine wv_aload_n dX8_meet_64 rfl ?_
      refine wv_iconst (v := 0) dX8_meet_65 (by decide) ?_
      refine wv_v1 oX8_step kX8_431 dX8_meet_66 (by omega) (by first | assumption | rfl) ⟨rfl, by decide⟩ (Nat.le_of_ble_eq_true rfl) (Nat.le_of_ble_eq_true rfl) (x_stepD hR g T ok (frB_g hf hg) hT (gD g) (dr_of k40 (frB_g hf hg) hzJ)) (fun v9 s9 J9 L9 R9 h9 => ?_)
      obtain ⟨⟨x9, rfl⟩, rfl, rfl, rfl, hT9, hw9, hf9⟩ := h9
      refine wv_istore dX8_meet_69 (by decide) ?_
      refine wv_iinc (v := nI (i + 1)) dX8_meet_71 rfl (nI_1 (i)) (by decide) ?_
      refine wv_goto (tgt := 57) dX8_meet_74 (by decide) ?_
      exact wv_le (by simp [wr_leq, wr_s1, wr_s2, wr_wide]) (ih (i + 1) _ J9 (by omega) hT9 (mOld_S hO hf9 hw9) (frS_z hf9 hzJ) (frB_tr hf (frB_S hf9)))
  refine wv_pad 2 ?_
  show wr_V l 6 mX8_meet 0 [some (.ref 55), some (.int x), some (.int y), some (.int kk), none, none] [] SH I L R 0 0 _
  refine wv_aload_n dX8_meet_0 rfl ?_
  refine wv_iload_n dX8_meet_1 rfl ?_
  refine wv_v1e oX8_isSeat kX8_435 dX8_meet_2 (by omega) (by first | assumption | rfl) ⟨rfl, by decide⟩ (Nat.le_of_ble_eq_true rfl) (Nat.le_of_ble_eq_true rfl) (x_isSeat _) ?_
  refine wv_if_eq (tgt := 24) dX8_meet_5 (by decide) (fun h5 => ?_) (fun h5 => ?_)
  · rw [hn, if10] at h5
    have hno : ¬ (oS g x ∧ oS g y ∧ oM g kk) := fun q => h5 q.1
    refine wv_iconst (v := (-1)) dX8_meet_24 (by decide) ?_
    refine wv_iret rfl dX8_meet_25 ?_
    refine ⟨?_, rfl, rfl, rfl, hF, hz, frB_rf⟩
    unfold aMeet
    rw [if_neg hno]
  · rw [hn, if10] at h5
    have hx : oS g x := Decidable.not_not.mp h5
    refine wv_aload_n dX8_meet_8 rfl ?_
    refine wv_iload_n dX8_meet_9 rfl ?_
    refine wv_v1e oX8_isSeat kX8_435 dX8_meet_10 (by omega) (by first | assumption | rfl) ⟨rfl, by decide⟩ (Nat.le_of_ble_eq_true rfl) (Nat.le_of_ble_eq_true rfl) (x_isSeat _) ?_
    refine wv_if_eq (tgt := 24) dX8_meet_13 (by decide) (fun h13 => ?_) (fun h13 => ?_)
    · rw [hn, if10] at h13
      have hno : ¬ (oS g x ∧ oS g y ∧ oM g kk) := fun q => h13 q.2.1
      refine wv_iconst (v := (-1)) dX8_meet_24 (by decide) ?_
      refine wv_iret rfl dX8_meet_25 ?_
      refine ⟨?_, rfl, rfl, rfl, hF, hz, frB_rf⟩
      unfold aMeet
      rw [if_neg hno]
    · rw [hn, if10] at h13
      have hy : oS g y := Decidable.not_not.mp h13
      refine wv_aload_n dX8_meet_16 rfl ?_
      refine wv_iload_n dX8_meet_17 rfl ?_
      refine wv_v1e oX8_isMany kX8_456 dX8_meet_18 (by omega) (by first | assumption | rfl) ⟨rfl, by decide⟩ (Nat.le_of_ble_eq_true rfl) (Nat.le_of_ble_eq_true rfl) (x_isMany _) ?_
      refine wv_if_ne (tgt := 26) dX8_meet_21 (by decide) (fun h21 => ?_) (fun h21 => ?_)
      · rw [hn, if10] at h21
        have hk : oM g kk := Decidable.not_not.mp h21
        obtain ⟨a, ha, rfl⟩ := ix_of hx (by omega)
        obtain ⟨c, hc, rfl⟩ := ix_of hy (by omega)
        obtain ⟨m, hm1, hm2, hm3, rfl⟩ := mk_of hk k40
        refine wv_aload_n dX8_meet_26 rfl ?_
        refine wv_v0 oX8_put kX8_444 dX8_meet_27 (by omega) (by first | assumption | rfl) ⟨rfl, by decide⟩ (Nat.le_of_ble_eq_true rfl) (Nat.le_of_ble_eq_true rfl) (x_put hR) (fun v8 s8 J8 L8 R8 h8 => ?_)
        obtain ⟨rfl, rfl, rfl, rfl, hO, hf8, p75, p76, p80, p82, p55⟩ := h8
        refine wv_aload_n dX8_meet_30 rfl ?_
        refine wv_v0 oX8_freshen kX8_157 dX8_meet_31 (by omega) (by first | assumption | rfl) ⟨rfl, by decide⟩ (Nat.le_of_ble_eq_true rfl) (Nat.le_of_ble_eq_true rfl) (x_freshen hR g (frB_g hf8 hg).2.1) (fun v6 s6 J6 L6 R6 h6 => ?_)
        obtain ⟨rfl, rfl, rfl, rfl, hS6, hw6, hf6, f78, f79, f81, f82, f55⟩ := h6
        refine wv_aload_n dX8_meet_34 rfl ?_
        refine wv_iload_n dX8_meet_35 rfl ?_
        refine wv_iload_n dX8_meet_36 rfl ?_
        refine wv_v2 oX8_start kX8_450 dX8_meet_37 (by omega) (by first | assumption | rfl) ⟨rfl, by decide⟩ (Nat.le_of_ble_eq_true rfl) (Nat.le_of_ble_eq_true rfl) (x_start hR g (S0 g) ok (by rw [f55 _ (by omega) (by omega), p55 _ (by omega) (by omega)]; exact hn) (fun _ => false) (fun s hs => by rw [(tw_none _ s).1, (tw_none _ s).2]; exact ⟨hS6.1 s hs, hS6.2.1 s hs⟩) a m ha hm3) (fun v5 s5 J5 L5 R5 h9 => ?_)
        obtain ⟨rfl, rfl, rfl, rfl, hS5, hf5⟩ := h9
        refine wv_aload_n dX8_meet_40 rfl ?_
        refine wv_iload_n dX8_meet_41 rfl ?_
        refine wv_iload_n dX8_meet_42 rfl ?_
        refine wv_v2 oX8_start kX8_450 dX8_meet_43 (by omega) (by first | assumption | rfl) ⟨rfl, by decide⟩ (Nat.le_of_ble_eq_true rfl) (Nat.le_of_ble_eq_true rfl) (x_start hR g (S0 g) ok (by rw [hf5 _ (by omega) (by omega), f55 _ (by omega) (by omega), p55 _ (by omega) (by omega)]; exact hn) (fun s => false || sfB (gN g) a m s) hS5 c m hc hm3) (fun v4 s4 J4 L4 R4 h9 => ?_)
        obtain ⟨rfl, rfl, rfl, rfl, hS4, hf4⟩ := h9
        refine wv_aload_n dX8_meet_46 rfl ?_
        refine wv_iconst (v := 1) dX8_meet_47 (by decide) ?_
        refine wv_putI fX8_384 dX8_meet_48 rfl rfl rfl rfl (by first | assumption | rfl) ?_
        refine wv_iconst (v := 0) dX8_meet_51 (by decide) ?_
        refine wv_istore dX8_meet_52 (by decide) ?_
        refine wv_iconst (v := nI 0) dX8_meet_54 rfl ?_
        refine wv_istore dX8_meet_55 (by decide) ?_
        have hf54 : ∀ b, b ≠ 75 → b ≠ 76 → J4 b = J6 b := fun b b1 b2 => (hf4 b b1 b2).trans (hf5 b b1 b2)
        have hJ1 : ∀ b, b ≠ 55 → b ≠ 82 → wr_uI J4 55 58 1 b = J4 b := fun b b1 _ => wr_uI_ne b1
        have hJ2 : ∀ k, k ≠ 58 → wr_uI J4 55 58 1 55 k = J4 55 k := fun k hk => by simp [wr_uI, hk]
        have hfJ : frB I (wr_uI J4 55 58 1) := ⟨fun b b1 b2 => by rw [wr_uI_ne b1, hf54 b (by omega) (by omega), hf6.1 b b1 (by omega), hf8.1 b b1 (by omega)], fun k hk => by rw [hJ2 k (by omega), hf54 55 (by omega) (by omega), f55 k (by omega) (by omega), hf8.2 k hk]⟩
        have hSJ : mcV (wr_uI J4 55 58 1) (tryS (fun s => sfB (gN g) a m s || sfB (gN g) c m s) (S0 g)) := mcV_start (W := fun s => (false || sfB (gN g) a m s) || sfB (gN g) c m s) (fun s hs => by rw [hJ1 75 (by omega) (by omega), hJ1 76 (by omega) (by omega)]; exact hS4 s hs) (fun s => by simp) (by rw [hJ2 _ (by omega), hf54 55 (by omega) (by omega)]; exact hS6.2.2.1) (by simp [wr_uI])
        have hOJ : mOld (wr_uI J4 55 58 1) F := old_of (hO F hF) f78 f79 f81 f55 hf54 hJ1 hJ2
        refine wr_V.imp (wv_le (by simp [wr_leq, wr_s1, wr_s2, wr_wide]) (lp 60 0 _ _ (by omega) hSJ hOJ (fun s hs => by rw [wr_uI_ne (by omega), hf54 82 (by omega) (by omega), f82, p82]; exact hz s hs) hfJ)) (fun v s' I' L' R' h => ⟨h.1.trans ?_, h.2⟩)
        unfold aMeet
        rw [if_pos ⟨hx, hy, hk⟩, tN_nI (by omega), tN_nI (by omega), tN_nI (by omega)]
      · rw [hn, if10] at h21
        have hno : ¬ (oS g x ∧ oS g y ∧ oM g kk) := fun q => h21 q.2.2
        refine wv_iconst (v := (-1)) dX8_meet_24 (by decide) ?_
        refine wv_iret rfl dX8_meet_25 ?_
        refine ⟨?_, rfl, rfl, rfl, hF, hz, frB_rf⟩
        unfold aMeet
        rw [if_neg hno]

