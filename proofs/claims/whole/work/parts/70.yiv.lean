/-! the model: how much it notes; what waits -/
def tkQ (k : TK) : Prop := k.1 = 2 → ∃ q, q < 10000 ∧ k.2.2.2 = nI q
theorem dg_n {c : Int32} (h : cDg c = true) : ∃ d, d < 10 ∧ c = nI (48 + d) := by
  unfold cDg at h
  rw [decide_eq_true_iff, Int32.le_iff_toInt_le, Int32.le_iff_toInt_le] at h
  have e1 : (48 : Int32).toInt = 48 := by decide
  have e2 : (57 : Int32).toInt = 57 := by decide
  rw [e1, e2] at h
  refine ⟨c.toInt.toNat - 48, by omega, ?_⟩
  apply Int32.toInt_inj.mp
  rw [nI_toInt (by omega)]
  omega
theorem nf_n {T : TP} {a : Nat} : ∀ i, i ≤ 4 → (∀ j, j < i → cDg (bt T (a + j)) = true) → ∃ m, m < 10 ^ i ∧ nf T a i = nI m := by
  intro i
  induction i with
  | zero => intro _ _; exact ⟨0, by omega, rfl⟩
  | succ i ih =>
    intro hi hd
    obtain ⟨m, hm, e⟩ := ih (by omega) (fun j hj => hd j (by omega))
    obtain ⟨d, hd1, e2⟩ := dg_n (hd i (by omega))
    have hp : 10 ^ i ≤ 10 ^ 3 := Nat.pow_le_pow_right (by omega) (by omega)
    refine ⟨10 * m + d, by rw [Nat.pow_succ]; omega, ?_⟩
    rw [nf, e, e2]
    show Int32.ofNat m * Int32.ofNat 10 + Int32.ofNat (48 + d) - Int32.ofNat 48 = Int32.ofNat (10 * m + d)
    rw [← Int32.ofNat_mul, ← Int32.ofNat_add, show m * 10 + (48 + d) = (10 * m + d) + 48 by omega, Int32.ofNat_add, Int32.add_sub_cancel]
theorem tkS_q {T : TP} {p : Nat} (hT : T.1 ≤ 800) (hp : p ≤ 800) : tkQ (tkS T p) := by
  unfold tkQ tkS
  have ha := rnE_ge cB T (800 - p) p
  generalize rnE cB T (800 - p) p = a at ha
  have h2 := rnE_ge cDg T (800 - a) a
  unfold tkA
  by_cases h48 : bt T a = -1
  · rw [if_pos h48]; intro z; simp only at z; omega
  · rw [if_neg h48]
    by_cases h68 : cLt (bt T a) = true
    · rw [if_pos h68]; intro z; simp only at z; split at z <;> omega
    · rw [if_neg h68]
      by_cases h82 : cDg (bt T a) = true
      · rw [if_pos h82]
        intro z
        simp only at z ⊢
        split at z
        · omega
        · rename_i hn
          have e : nmE T (800 - a) a 0 = nf T a (rnE cDg T (800 - a) a - a) := nmE_nf (T := T) (a := a) (800 - a) 0
          rw [e]
          obtain ⟨m, hm, e2⟩ := nf_n (T := T) (a := a) (rnE cDg T (800 - a) a - a) (by omega) (fun j hj => rnE_all (800 - a) a _ (by omega) (by omega))
          have hp : 10 ^ (rnE cDg T (800 - a) a - a) ≤ 10 ^ 4 := Nat.pow_le_pow_right (by omega) (by omega)
          exact ⟨m, by omega, e2⟩
      · rw [if_neg h82]; intro z; simp only at z; split at z <;> omega
theorem nx_pl {T : TP} {k : TK} (hT : T.1 ≤ 800) (hG : tkG T k) : k.2.2.1 ≤ (tkS T k.2.2.1).2.1 ∧ (k.1 = 1 → (tkS T k.2.2.1).1 = 1 → k.2.2.1 < (tkS T k.2.2.1).2.1) := by
  have hg := tkS_g (T := T) hT hG.1.2.2
  have hge : k.2.2.1 ≤ (tkS T k.2.2.1).2.1 := by
    have ha := rnE_ge cB T (800 - k.2.2.1) k.2.2.1
    unfold tkS
    generalize rnE cB T (800 - k.2.2.1) k.2.2.1 = a at ha
    unfold tkA
    split
    · exact ha.1
    · split
      · exact ha.1
      · split <;> exact ha.1
  refine ⟨hge, fun h1 h2 => ?_⟩
  apply Nat.lt_of_le_of_ne hge
  intro e
  have q := hg.2.2.1 h2
  have q2 := hg.2.2.2.1 (by omega)
  have q3 := q.2.1 0 (by omega)
  rw [Nat.add_zero, ← e] at q3
  have := (hG.2.2.1 h1).2.2
  rw [q3] at this
  cases this
theorem lk_1 {T : TP} {k : TK} (h : ¬ lkH T k = -1) : k.1 = 1 ∧ ∃ j, j < 7 ∧ lkH T k = nI j := by
  have hw : ∀ i, isWd T k i = true → k.1 = 1 := fun i z => by unfold isWd at z; rw [Bool.and_eq_true, decide_eq_true_iff] at z; exact z.1.1
  unfold lkH at h ⊢
  split
  · rename_i z; exact ⟨hw _ z, 0, by omega, rfl⟩
  · rename_i z; rw [if_neg z] at h
    split
    · rename_i z; exact ⟨hw _ z, 1, by omega, rfl⟩
    · rename_i z; rw [if_neg z] at h
      split
      · rename_i z; exact ⟨hw _ z, 2, by omega, rfl⟩
      · rename_i z; rw [if_neg z] at h
        split
        · rename_i z; exact ⟨hw _ z, 3, by omega, rfl⟩
        · rename_i z; rw [if_neg z] at h
          split
          · rename_i z; exact ⟨hw _ z, 4, by omega, rfl⟩
          · rename_i z; rw [if_neg z] at h
            split
            · rename_i z; exact ⟨hw _ z, 5, by omega, rfl⟩
            · rename_i z; rw [if_neg z] at h
              split
              · rename_i z; exact ⟨hw _ z, 6, by omega, rfl⟩
              · rename_i z; rw [if_neg z] at h; exact absurd rfl h
theorem isS_3 {T : TP} {k : TK} {c : Int32} (h : isS T k c = true) : k.1 = 3 := by
  unfold isS at h; rw [decide_eq_true_iff] at h; exact h.1
theorem isW_1 {T : TP} {k : TK} {i : Nat} (h : isWd T k i = true) : k.1 = 1 ∧ k.2.2.1 - k.2.1 = wr_sl.getD i 0 := by
  unfold isWd at h; rw [Bool.and_eq_true, decide_eq_true_iff] at h; exact h.1
theorem ywh_4 {T : TP} {k : TK} (h : ¬ ywh T k = 0) : (k.1 = 3 ∨ k.1 = 1) ∧ 20 ≤ ywh T k ∧ ywh T k ≤ 28 ∧ ywh T k ≠ 22 := by
  unfold ywh at h ⊢
  split
  · rename_i z; exact ⟨.inl (isS_3 z), by omega, by omega, by omega⟩
  · rename_i z; rw [if_neg z] at h
    split
    · rename_i z; exact ⟨.inl (isS_3 z), by omega, by omega, by omega⟩
    · rename_i z; rw [if_neg z] at h
      split
      · rename_i z; exact ⟨.inl (isS_3 z), by omega, by omega, by omega⟩
      · rename_i z; rw [if_neg z] at h
        split
        · rename_i z; exact ⟨.inl (isS_3 z), by omega, by omega, by omega⟩
        · rename_i z; rw [if_neg z] at h
          split
          · rename_i z; exact ⟨.inl (isS_3 z), by omega, by omega, by omega⟩
          · rename_i z; rw [if_neg z] at h
            split
            · rename_i z; exact ⟨.inl (isS_3 z), by omega, by omega, by omega⟩
            · rename_i z; rw [if_neg z] at h
              split
              · rename_i z; exact ⟨.inr (isW_1 z).1, by omega, by omega, by omega⟩
              · rename_i z; rw [if_neg z] at h
                split
                · rename_i z; exact ⟨.inr (isW_1 z).1, by omega, by omega, by omega⟩
                · rename_i z; rw [if_neg z] at h; exact absurd rfl h
/-- what waits, and how much -/
def yiv (s : PS) (W : List Nat) (now : Nat) : Prop := s.2.2 ≤ 30 ∧ (∀ w, w ∈ W → 20 ≤ w ∧ w ≤ 30 ∧ w ≠ 29) ∧ tkQ s.1 ∧ 4 * (s.2.1.2 + W.length) + (if now = 2 then 4 else 0) ≤ 8 * s.2.2 + s.1.2.1 + (if s.1.1 = 1 then 0 else 1)
theorem yiv_n {T : TP} {s : PS} {W : List Nat} {now : Nat} (h : yiv s W now) (hG : tkG T s.1) : s.2.1.2 + W.length ≤ 260 ∧ (now = 2 → s.2.1.2 + W.length ≤ 259) := by
  obtain ⟨h1, _, _, h4⟩ := h
  have := hG.1.2.1
  have := hG.1.2.2
  by_cases hn : now = 2
  · rw [if_pos hn] at h4; split at h4 <;> exact ⟨by omega, fun _ => by omega⟩
  · rw [if_neg hn] at h4; split at h4 <;> exact ⟨by omega, fun z => absurd z hn⟩
theorem adC_n {x : Int32} {s : PS} (h : s.2.1.2 < 260) : (adC x s).2.1 = (upd s.2.1.1 s.2.1.2 x, s.2.1.2 + 1) := by
  unfold adC; simp only [h, if_true]
theorem ystl_n {r : Nat} : ∀ (W : List Nat) (s : PS), s.2.1.2 + W.length ≤ 260 → (ystl r W s).1.2.1.2 + (ystl r W s).2.length = s.2.1.2 + W.length ∧ (ystl r W s).1.1 = s.1 ∧ (ystl r W s).1.2.2 = s.2.2 ∧ ∀ w, w ∈ (ystl r W s).2 → w ∈ W := by
  intro W
  induction W with
  | nil => intro s _; exact ⟨rfl, rfl, rfl, fun w h => h⟩
  | cons a W ih =>
    intro s h
    simp only [List.length_cons] at h
    simp only [ystl]
    by_cases hc : a = 30 ∨ a < r
    · rw [if_pos hc]; exact ⟨rfl, rfl, rfl, fun w h => h⟩
    · rw [if_neg hc]
      have hn := adC_n (x := nI (cQ a)) (s := s) (by omega)
      obtain ⟨q1, q2, q3, q4⟩ := ih (adC (nI (cQ a)) s) (by rw [hn]; show s.2.1.2 + 1 + W.length ≤ 260; omega)
      refine ⟨?_, q2, q3, fun w hw => List.mem_cons_of_mem _ (q4 w hw)⟩
      rw [q1, hn, List.length_cons]
      show s.2.1.2 + 1 + W.length = _
      omega
theorem ystl_o : ∀ (W : List Nat) (s : PS), yop W = true → ∃ W', (ystl 0 W s).2 = 30 :: W' := by
  intro W
  induction W with
  | nil => intro s h; cases h
  | cons a W ih =>
    intro s h
    simp only [ystl]
    by_cases hc : a = 30 ∨ a < 0
    · rw [if_pos hc]; exact ⟨W, by rw [show a = 30 by omega]⟩
    · rw [if_neg hc]
      apply ih
      simp only [yop] at h
      rw [decide_eq_false (by omega), Bool.false_or] at h
      exact h
theorem yiv_o {T : TP} {s : PS} {W : List Nat} {now : Nat} {c : YS} (hT : T.1 ≤ 800) (hG : tkG T s.1) (hn : now ≠ 2) (h : yiv s W now) (hc : yopd T s W now = .inl c) : yiv c.1 c.2.1 c.2.2 := by
  have hb := (yiv_n h hG).1
  obtain ⟨h1, h2, h3, h4⟩ := h
  obtain ⟨n1, n2⟩ := nx_pl hT hG
  have hq := tkS_q (T := T) hT hG.1.2.2
  have hlt := hG.2.2.2.1
  rw [if_neg hn] at h4
  unfold yopd at hc
  by_cases hw : now = 0 ∧ isWd T s.1 13 = true
  · rw [if_pos hw] at hc
    split at hc
    · cases hc
    · cases hc
      obtain ⟨w1, w2⟩ := isW_1 hw.2
      have w3 : wr_sl.getD 13 0 = 3 := by decide
      rw [w3] at w2
      refine ⟨h1, fun x hx => ?_, hq, ?_⟩
      · rcases List.mem_cons.mp hx with rfl | hx
        · exact ⟨by omega, by omega, by omega⟩
        · exact h2 x hx
      · show 4 * (s.2.1.2 + (W.length + 1)) + 0 ≤ 8 * s.2.2 + (tkS T s.1.2.2.1).2.1 + (if (tkS T s.1.2.2.1).1 = 1 then 0 else 1)
        rw [if_pos w1] at h4
        split
        · rename_i z; have := n2 w1 z; omega
        · omega
  · rw [if_neg hw] at hc
    split at hc
    · cases hc
    · rename_i h30
      split at hc
      · rename_i h40
        split at hc
        · cases hc
        · cases hc
          have := hlt (by rw [isS_3 h40]; omega)
          refine ⟨by show s.2.2 + 1 ≤ 30; omega, fun x hx => ?_, hq, ?_⟩
          · rcases List.mem_cons.mp hx with rfl | hx
            · exact ⟨by omega, by omega, by omega⟩
            · exact h2 x hx
          · show 4 * (s.2.1.2 + (W.length + 1)) + 0 ≤ 8 * (s.2.2 + 1) + (tkS T s.1.2.2.1).2.1 + (if (tkS T s.1.2.2.1).1 = 1 then 0 else 1)
            split at h4 <;> split <;> omega
      · rename_i h40
        split at hc
        · cases hc
        · rename_i hno
          cases hc
          have h5 : ¬ s.1.1 = 0 := fun z => by
            have hk : lkH T s.1 = -1 := Decidable.byContradiction (fun q => by have := (lk_1 q).1; omega)
            exact hno ⟨by omega, hk⟩
          have := hlt h5
          have := hG.1.2.2
          have hnn := adC_n (x := if s.1.1 = 2 then s.1.2.2.2 else 10000 + lkH T s.1) (s := s) (by split at h4 <;> omega)
          refine ⟨by show s.2.2 + 1 ≤ 30; omega, h2, hq, ?_⟩
          show 4 * ((adC (if s.1.1 = 2 then s.1.2.2.2 else 10000 + lkH T s.1) s).2.1.2 + W.length) + 4 ≤ 8 * (s.2.2 + 1) + (tkS T s.1.2.2.1).2.1 + (if (tkS T s.1.2.2.1).1 = 1 then 0 else 1)
          rw [hnn]
          show 4 * (s.2.1.2 + 1 + W.length) + 4 ≤ _
          split at h4 <;> split <;> omega
theorem yiv_s {T : TP} {s : PS} {W : List Nat} {c : YS} (hT : T.1 ≤ 800) (hG : tkG T s.1) (h : yiv s W 2) (hc : ysgn T s W = .inl c) : yiv c.1 c.2.1 c.2.2 := by
  have hb := (yiv_n h hG).2 rfl
  obtain ⟨h1, h2, h3, h4⟩ := h
  obtain ⟨n1, n2⟩ := nx_pl hT hG
  have hq := tkS_q (T := T) hT hG.1.2.2
  have hlt := hG.2.2.2.1
  rw [if_pos rfl] at h4
  unfold ysgn at hc
  have key : ∀ (r v nw : Nat), ywh T s.1 = v → ¬ v = 0 → nw ≠ 2 → yiv (nxt T (ystl r W s).1) (v :: (ystl r W s).2) nw := by
    intro r v nw hv h0 hnw
    obtain ⟨q1, q2, q3, q4⟩ := ystl_n (r := r) W s (by omega)
    obtain ⟨w1, w2, w3, w4⟩ := ywh_4 (T := T) (k := s.1) (by rw [hv]; exact h0)
    rw [hv] at w2 w3 w4
    have := hlt (by omega)
    unfold yiv nxt
    rw [q2, q3, if_neg hnw]
    refine ⟨h1, fun x hx => ?_, hq, ?_⟩
    · rcases List.mem_cons.mp hx with rfl | hx
      · exact ⟨w2, by omega, by omega⟩
      · exact h2 x (q4 x hx)
    · show 4 * ((ystl r W s).1.2.1.2 + ((ystl r W s).2.length + 1)) + 0 ≤ 8 * s.2.2 + (tkS T s.1.2.2.1).2.1 + (if (tkS T s.1.2.2.1).1 = 1 then 0 else 1)
      split at h4 <;> split <;> omega
  split at hc
  · rename_i hcl
    cases hc
    obtain ⟨q1, q2, q3, q4⟩ := ystl_n (r := 0) W s (by omega)
    obtain ⟨W', hW'⟩ := ystl_o W s hcl.2
    have := hlt (by rw [isS_3 hcl.1]; omega)
    rw [hW'] at q1 q4
    rw [List.length_cons] at q1
    unfold yiv nxt
    rw [q2, q3, hW', if_pos rfl]
    refine ⟨h1, fun x hx => h2 x (q4 x (List.mem_cons_of_mem _ hx)), hq, ?_⟩
    show 4 * ((ystl 0 W s).1.2.1.2 + W'.length) + 4 ≤ 8 * s.2.2 + (tkS T s.1.2.2.1).2.1 + (if (tkS T s.1.2.2.1).1 = 1 then 0 else 1)
    split at h4 <;> split <;> omega
  · split at hc
    · cases hc
    · rename_i h0
      split at hc
      · split at hc
        · cases hc
        · cases hc
          exact key 26 _ 1 rfl h0 (by omega)
      · cases hc
        exact key (yrk (ywh T s.1)) _ (if ywh T s.1 ≤ 21 then 0 else 1) rfl h0 (by split <;> omega)
