/-! the model: sure, same -/
theorem bo1 {a b : Bool} (h : ¬ bI a = 0) : (1 : Int32) = bI (a || b) := by cases a <;> cases b <;> simp_all [bI]
theorem bo2 {a b : Bool} (h : bI a = 0) (h2 : bI b = 0) : (0 : Int32) = bI (a || b) := by cases a <;> cases b <;> simp_all [bI]
theorem bo3 {a b : Bool} (h : ¬ bI b = 0) : (1 : Int32) = bI (a || b) := by cases a <;> cases b <;> simp_all [bI]
theorem bn1 {a b : Bool} (h : bI a = 0) : (0 : Int32) = bI (a && b) := by cases a <;> cases b <;> simp_all [bI]
theorem bn2 {a b : Bool} (h : bI b = 0) : (0 : Int32) = bI (a && b) := by cases a <;> cases b <;> simp_all [bI]
theorem bn3 {a b : Bool} (h : ¬ bI a = 0) (h2 : ¬ bI b = 0) : (1 : Int32) = bI (a && b) := by cases a <;> cases b <;> simp_all [bI]
theorem lb_uL {n : Nat} (hn : n ≤ 40) {ps : Nat → Int32} {x : Nat} (hx : x < n) : lb (uL n ps) x = isU (ps x) := by
  unfold uL
  rw [lb_orb _ _ _ (by omega) x (by omega)]
  simp [lb_0, hx]
theorem sure_no {g : RG} {m : FM} {tk x mo : Int32} (h : ∀ f, fst (fun x => (kn m tk x).isSome) 40 = some f → (oS g x ∧ nI f ≤ mo ∧ mo < 40) → cn (fun a => fitS g a (kn m tk)) 324 = 0) : aSure g (kn m tk) x mo = -1 := by
  unfold aSure
  cases hf : fst (fun x => (kn m tk x).isSome) 40 with
  | none => rfl
  | some f =>
    simp only
    by_cases hc : oS g x ∧ nI f ≤ mo ∧ mo < 40
    · rw [if_pos hc]
      cases hk : kn m tk f with
      | none => rfl
      | some u => simp only; rw [h f hf hc]; rfl
    · rw [if_neg hc]
set_option maxHeartbeats 4000000 in
set_option maxRecDepth 100000 in
theorem x_sureL {l : Launch} {R : wr_TR} (hR : wr_RC R) (g : RG) (ok : gOK g) (m : FM) (tk : Int32) (J0 : wr_TI) (K : wr_TL) (hg : mgV J0 g) (hk : kM J0 K (kn m tk)) (hfit : ∀ a, a < 324 → J0 89 a = bI (fitS g a (kn m tk))) (f mo x : Nat) (u : Int64) (hff : fst (fun x => (kn m tk x).isSome) 40 = some f) (hu : kn m tk f = some u) (hfm : f ≤ mo) (hm : mo < 40) (hx : x < gN g) (hc0 : ¬ cn (fun a => fitS g a (kn m tk)) 324 = 0) : ∀ (k i : Nat) (J : wr_TI), i + k = 324 → frP 0 J0 J → wr_V l 5 mX8_sure 52 [some (.ref 55), some (.int (nI x)), some (.int (nI mo)), none, some (.int (bI (decide (0 < cn (fun a => fitS g a (kn m tk) && shw g a f mo x u) i)))), some (.int (bI (decide (cn (fun a => fitS g a (kn m tk) && shw g a f mo x u) i = cn (fun a => fitS g a (kn m tk)) i)))), some (.int (nI i)), none] [] SH J K R 0 0 (fun v s' I' L' R' => v = some (.int (sur (cn (fun a => fitS g a (kn m tk)) 324) (cn (fun a => fitS g a (kn m tk) && shw g a f mo x u) 324))) ∧ s' = SH ∧ L' = K ∧ R' = R ∧ frP 0 J0 I') := by
  obtain ⟨k6, k40, -⟩ := id ok
  have huf := hk.2.1 f u (by omega) hu
  have hff2 : J0 55 71 = nI f := by rw [hk.2.2, hff]; rfl
  intro k
  induction k with
  | zero =>
    intro i J hi hf
    obtain rfl : i = 324 := by omega
    have hle : cn (fun a => fitS g a (kn m tk) && shw g a f mo x u) 324 ≤ cn (fun a => fitS g a (kn m tk)) 324 := by
      have : ∀ n, cn (fun a => fitS g a (kn m tk) && shw g a f mo x u) n ≤ cn (fun a => fitS g a (kn m tk)) n := by
        intro n
        induction n with
        | zero => exact Nat.le_refl _
        | succ n ih =>
          simp only [cn]
          by_cases h1 : fitS g n (kn m tk) = true
          · simp [h1]; split <;> omega
          · simp [h1]; omega
      exact this 324
    refine wv_iload dX8_sure_52 rfl ?_
    refine wv_sipush (v := 324) dX8_sure_54 (by decide) ?_
    refine wv_icmp_ge (tgt := 173) dX8_sure_57 (by decide) (fun h57 => ?_) (fun h57 => absurd (nI_le (a := 324) (by omega) (by omega)) h57)
    refine wv_iload dX8_sure_173 rfl ?_
    refine wv_if_eq (tgt := 182) dX8_sure_175 (by decide) (fun h175 => ?_) (fun h175 => ?_)
    · rw [bI_0, decide_eq_false_iff_not] at h175
      refine wv_iload dX8_sure_182 rfl ?_
      refine wv_if_eq (tgt := 191) dX8_sure_184 (by decide) (fun h184 => ?_) (fun h184 => ?_)
      · rw [bI_0, decide_eq_false_iff_not] at h184
        refine wv_iconst (v := 0) dX8_sure_191 (by decide) ?_
        refine wv_iret rfl dX8_sure_192 ?_
        refine ⟨?_, rfl, rfl, rfl, hf⟩
        unfold sur
        rw [if_neg hc0]
        first
          | rw [if_pos h175]
          | (rw [if_neg h175, if_pos (by omega)])
          | (rw [if_neg h175, if_neg (by omega)])
      · rw [bI_0, decide_eq_false_iff_not, Decidable.not_not] at h184
        refine wv_iconst (v := 2) dX8_sure_187 (by decide) ?_
        refine wv_goto (tgt := 192) dX8_sure_188 (by decide) ?_
        refine wv_iret rfl dX8_sure_192 ?_
        refine ⟨?_, rfl, rfl, rfl, hf⟩
        unfold sur
        rw [if_neg hc0]
        first
          | rw [if_pos h175]
          | (rw [if_neg h175, if_pos (by omega)])
          | (rw [if_neg h175, if_neg (by omega)])
    · rw [bI_0, decide_eq_false_iff_not, Decidable.not_not] at h175
      refine wv_iconst (v := 1) dX8_sure_178 (by decide) ?_
      refine wv_goto (tgt := 192) dX8_sure_179 (by decide) ?_
      refine wv_iret rfl dX8_sure_192 ?_
      refine ⟨?_, rfl, rfl, rfl, hf⟩
      unfold sur
      rw [if_neg hc0]
      first
        | rw [if_pos h175]
        | (rw [if_neg h175, if_pos (by omega)])
        | (rw [if_neg h175, if_neg (by omega)])
  | succ k ih =>
    intro i J hi hf
    have ef : J 89 i = bI (fitS g i (kn m tk)) := by rw [hf.1 89 (by omega) (by omega) (by omega)]; exact hfit i (by omega)
    have tl : ∀ (J1 : wr_TI) (sm al sb : Bool), fitS g i (kn m tk) = true → sb = shw g i f mo x u → sm = decide (0 < cn (fun a => fitS g a (kn m tk) && shw g a f mo x u) i) → al = decide (cn (fun a => fitS g a (kn m tk) && shw g a f mo x u) i = cn (fun a => fitS g a (kn m tk)) i) → frP 0 J0 J1 → wr_V l 5 mX8_sure 133 [some (.ref 55), some (.int (nI x)), some (.int (nI mo)), none, some (.int (bI sm)), some (.int (bI al)), some (.int (nI i)), some (.int (bI sb))] [] SH J1 K R 0 0 (fun v s' I' L' R' => v = some (.int (sur (cn (fun a => fitS g a (kn m tk)) 324) (cn (fun a => fitS g a (kn m tk) && shw g a f mo x u) 324))) ∧ s' = SH ∧ L' = K ∧ R' = R ∧ frP 0 J0 I') := by
      intro J1 sm al sb hfi hsb hsm hal hf1
      have hle : cn (fun a => fitS g a (kn m tk) && shw g a f mo x u) i ≤ cn (fun a => fitS g a (kn m tk)) i := by
        have : ∀ n, cn (fun a => fitS g a (kn m tk) && shw g a f mo x u) n ≤ cn (fun a => fitS g a (kn m tk)) n := by
          intro n
          induction n with
          | zero => exact Nat.le_refl _
          | succ n ih =>
            simp only [cn]
            by_cases h1 : fitS g n (kn m tk) = true
            · simp [h1]; split <;> omega
            · simp [h1]; omega
        exact this i
      have hs1 : (sm || sb) = decide (0 < cn (fun a => fitS g a (kn m tk) && shw g a f mo x u) (i + 1)) := by
        rw [hsm, hsb]
        simp only [cn, hfi, Bool.true_and]
        cases shw g i f mo x u <;> simp
      have ha1 : (al && sb) = decide (cn (fun a => fitS g a (kn m tk) && shw g a f mo x u) (i + 1) = cn (fun a => fitS g a (kn m tk)) (i + 1)) := by
        rw [hal, hsb]
        simp only [cn, hfi, Bool.true_and, if_true]
        cases shw g i f mo x u with
        | true => simp
        | false => simp; omega
      refine wv_iload dX8_sure_133 rfl ?_
      refine wv_if_ne (tgt := 143) dX8_sure_135 (by decide) (fun h135 => ?_) (fun h135 => ?_)
      · have e4 : (1 : Int32) = bI (sm || sb) := bo1 h135
        refine wv_iconst (v := 1) dX8_sure_143 (by decide) ?_
        refine wv_goto (tgt := 148) dX8_sure_144 (by decide) ?_
        rw [e4]
        refine wv_istore dX8_sure_148 (by decide) ?_
        refine wv_iload dX8_sure_150 rfl ?_
        refine wv_if_eq (tgt := 164) dX8_sure_152 (by decide) (fun h152 => ?_) (fun h152 => ?_)
        · have e5 : (0 : Int32) = bI (al && sb) := bn1 h152
          refine wv_iconst (v := 0) dX8_sure_164 (by decide) ?_
          rw [e5]
          refine wv_istore dX8_sure_165 (by decide) ?_
          refine wv_iinc (v := nI (i + 1)) dX8_sure_167 rfl (nI_1 (i)) (by decide) ?_
          refine wv_goto (tgt := 52) dX8_sure_170 (by decide) ?_
          rw [hs1, ha1]
          exact wv_le (by simp [wr_leq, wr_s1, wr_s2, wr_wide]) (ih (i + 1) J1 (by omega) hf1)
        · refine wv_iload dX8_sure_155 rfl ?_
          refine wv_if_eq (tgt := 164) dX8_sure_157 (by decide) (fun h157 => ?_) (fun h157 => ?_)
          · have e5 : (0 : Int32) = bI (al && sb) := bn2 h157
            refine wv_iconst (v := 0) dX8_sure_164 (by decide) ?_
            rw [e5]
            refine wv_istore dX8_sure_165 (by decide) ?_
            refine wv_iinc (v := nI (i + 1)) dX8_sure_167 rfl (nI_1 (i)) (by decide) ?_
            refine wv_goto (tgt := 52) dX8_sure_170 (by decide) ?_
            rw [hs1, ha1]
            exact wv_le (by simp [wr_leq, wr_s1, wr_s2, wr_wide]) (ih (i + 1) J1 (by omega) hf1)
          · have e5 : (1 : Int32) = bI (al && sb) := bn3 h152 h157
            refine wv_iconst (v := 1) dX8_sure_160 (by decide) ?_
            refine wv_goto (tgt := 165) dX8_sure_161 (by decide) ?_
            rw [e5]
            refine wv_istore dX8_sure_165 (by decide) ?_
            refine wv_iinc (v := nI (i + 1)) dX8_sure_167 rfl (nI_1 (i)) (by decide) ?_
            refine wv_goto (tgt := 52) dX8_sure_170 (by decide) ?_
            rw [hs1, ha1]
            exact wv_le (by simp [wr_leq, wr_s1, wr_s2, wr_wide]) (ih (i + 1) J1 (by omega) hf1)
      · refine wv_iload dX8_sure_138 rfl ?_
        refine wv_if_eq (tgt := 147) dX8_sure_140 (by decide) (fun h140 => ?_) (fun h140 => ?_)
        · have e4 : (0 : Int32) = bI (sm || sb) := bo2 h135 h140
          refine wv_iconst (v := 0) dX8_sure_147 (by decide) ?_
          rw [e4]
          refine wv_istore dX8_sure_148 (by decide) ?_
          refine wv_iload dX8_sure_150 rfl ?_
          refine wv_if_eq (tgt := 164) dX8_sure_152 (by decide) (fun h152 => ?_) (fun h152 => ?_)
          · have e5 : (0 : Int32) = bI (al && sb) := bn1 h152
            refine wv_iconst (v := 0) dX8_sure_164 (by decide) ?_
            rw [e5]
            refine wv_istore dX8_sure_165 (by decide) ?_
            refine wv_iinc (v := nI (i + 1)) dX8_sure_167 rfl (nI_1 (i)) (by decide) ?_
            refine wv_goto (tgt := 52) dX8_sure_170 (by decide) ?_
            rw [hs1, ha1]
            exact wv_le (by simp [wr_leq, wr_s1, wr_s2, wr_wide]) (ih (i + 1) J1 (by omega) hf1)
          · refine wv_iload dX8_sure_155 rfl ?_
            refine wv_if_eq (tgt := 164) dX8_sure_157 (by decide) (fun h157 => ?_) (fun h157 => ?_)
            · have e5 : (0 : Int32) = bI (al && sb) := bn2 h157
              refine wv_iconst (v := 0) dX8_sure_164 (by decide) ?_
              rw [e5]
              refine wv_istore dX8_sure_165 (by decide) ?_
              refine wv_iinc (v := nI (i + 1)) dX8_sure_167 rfl (nI_1 (i)) (by decide) ?_
              refine wv_goto (tgt := 52) dX8_sure_170 (by decide) ?_
              rw [hs1, ha1]
              exact wv_le (by simp [wr_leq, wr_s1, wr_s2, wr_wide]) (ih (i + 1) J1 (by omega) hf1)
            · have e5 : (1 : Int32) = bI (al && sb) := bn3 h152 h157
              refine wv_iconst (v := 1) dX8_sure_160 (by decide) ?_
              refine wv_goto (tgt := 165) dX8_sure_161 (by decide) ?_
              rw [e5]
              refine wv_istore dX8_sure_165 (by decide) ?_
              refine wv_iinc (v := nI (i + 1)) dX8_sure_167 rfl (nI_1 (i)) (by decide) ?_
              refine wv_goto (tgt := 52) dX8_sure_170 (by decide) ?_
              rw [hs1, ha1]
              exact wv_le (by simp [wr_leq, wr_s1, wr_s2, wr_wide]) (ih (i + 1) J1 (by omega) hf1)
        · have e4 : (1 : Int32) = bI (sm || sb) := bo3 h140
          refine wv_iconst (v := 1) dX8_sure_143 (by decide) ?_
          refine wv_goto (tgt := 148) dX8_sure_144 (by decide) ?_
          rw [e4]
          refine wv_istore dX8_sure_148 (by decide) ?_
          refine wv_iload dX8_sure_150 rfl ?_
          refine wv_if_eq (tgt := 164) dX8_sure_152 (by decide) (fun h152 => ?_) (fun h152 => ?_)
          · have e5 : (0 : Int32) = bI (al && sb) := bn1 h152
            refine wv_iconst (v := 0) dX8_sure_164 (by decide) ?_
            rw [e5]
            refine wv_istore dX8_sure_165 (by decide) ?_
            refine wv_iinc (v := nI (i + 1)) dX8_sure_167 rfl (nI_1 (i)) (by decide) ?_
            refine wv_goto (tgt := 52) dX8_sure_170 (by decide) ?_
            rw [hs1, ha1]
            exact wv_le (by simp [wr_leq, wr_s1, wr_s2, wr_wide]) (ih (i + 1) J1 (by omega) hf1)
          · refine wv_iload dX8_sure_155 rfl ?_
            refine wv_if_eq (tgt := 164) dX8_sure_157 (by decide) (fun h157 => ?_) (fun h157 => ?_)
            · have e5 : (0 : Int32) = bI (al && sb) := bn2 h157
              refine wv_iconst (v := 0) dX8_sure_164 (by decide) ?_
              rw [e5]
              refine wv_istore dX8_sure_165 (by decide) ?_
              refine wv_iinc (v := nI (i + 1)) dX8_sure_167 rfl (nI_1 (i)) (by decide) ?_
              refine wv_goto (tgt := 52) dX8_sure_170 (by decide) ?_
              rw [hs1, ha1]
              exact wv_le (by simp [wr_leq, wr_s1, wr_s2, wr_wide]) (ih (i + 1) J1 (by omega) hf1)
            · have e5 : (1 : Int32) = bI (al && sb) := bn3 h152 h157
              refine wv_iconst (v := 1) dX8_sure_160 (by decide) ?_
              refine wv_goto (tgt := 165) dX8_sure_161 (by decide) ?_
              rw [e5]
              refine wv_istore dX8_sure_165 (by decide) ?_
              refine wv_iinc (v := nI (i + 1)) dX8_sure_167 rfl (nI_1 (i)) (by decide) ?_
              refine wv_goto (tgt := 52) dX8_sure_170 (by decide) ?_
              rw [hs1, ha1]
              exact wv_le (by simp [wr_leq, wr_s1, wr_s2, wr_wide]) (ih (i + 1) J1 (by omega) hf1)
    have lq : ∀ (k2 q : Nat) (ps : Nat → Int32) (J1 : wr_TI), fitS g i (kn m tk) = true → q + k2 = mo → pV J1 0 g ps → pit g i k2 ps = pit g i (mo - f) (ps0 g (lb u)) → frP 0 J0 J1 → wr_V l 5 mX8_sure 93 [some (.ref 55), some (.int (nI x)), some (.int (nI mo)), none, some (.int (bI (decide (0 < cn (fun a => fitS g a (kn m tk) && shw g a f mo x u) i)))), some (.int (bI (decide (cn (fun a => fitS g a (kn m tk) && shw g a f mo x u) i = cn (fun a => fitS g a (kn m tk)) i)))), some (.int (nI i)), some (.int (nI q))] [] SH J1 K R 0 0 (fun v s' I' L' R' => v = some (.int (sur (cn (fun a => fitS g a (kn m tk)) 324) (cn (fun a => fitS g a (kn m tk) && shw g a f mo x u) 324))) ∧ s' = SH ∧ L' = K ∧ R' = R ∧ frP 0 J0 I') := by
      intro k2
      induction k2 with
      | zero =>
        intro q ps J1 hfi hq hp hpit hf1
        have hps : ps = pit g i (mo - f) (ps0 g (lb u)) := hpit
        have hsh : lb (uL (gN g) ps) x = shw g i f mo x u := by rw [lb_uL k40 hx, hps]; rfl
        refine wv_iload dX8_sure_93 rfl ?_
        refine wv_iload_n dX8_sure_95 rfl ?_
        refine wv_icmp_ge (tgt := 112) dX8_sure_96 (by decide) (fun h96 => ?_) (fun h96 => absurd (nI_le (by omega) (by omega)) h96)
        refine wv_aload_n dX8_sure_112 rfl ?_
        refine wv_iconst (v := nI 0) dX8_sure_113 rfl ?_
        refine wv_v1e oX8_upsOf kX8_487 dX8_sure_114 (by omega) (by first | assumption | rfl) ⟨rfl, by decide⟩ (Nat.le_of_ble_eq_true rfl) (Nat.le_of_ble_eq_true rfl) (x_upsOf hR g k40 (frP_g hf1 hg).1 0 (by omega) ps hp) ?_
        refine wv_iload_n dX8_sure_117 rfl ?_
        refine wv_lshr dX8_sure_118 ?_
        refine wv_lconst (v := 1) dX8_sure_119 (by decide) ?_
        refine wv_land dX8_sure_120 ?_
        refine wv_lconst (v := 1) dX8_sure_121 (by decide) ?_
        refine wv_lcmp dX8_sure_122 ?_
        refine wv_if_ne (tgt := 130) dX8_sure_123 (by decide) (fun h123 => ?_) (fun h123 => ?_)
        · rw [lg_cmp_eq, bit1 _ (by omega), hsh] at h123
          have e7 : (0 : Int32) = bI (shw g i f mo x u) := by simp [bI, h123]
          refine wv_iconst (v := 0) dX8_sure_130 (by decide) ?_
          rw [e7]
          refine wv_istore dX8_sure_131 (by decide) ?_
          exact wv_le (by simp [wr_leq, wr_s1, wr_s2, wr_wide]) (tl J1 _ _ _ hfi rfl rfl rfl hf1)
        · rw [lg_cmp_eq, bit1 _ (by omega), hsh] at h123
          have e7 : (1 : Int32) = bI (shw g i f mo x u) := by simp [bI, h123]
          refine wv_iconst (v := 1) dX8_sure_126 (by decide) ?_
          refine wv_goto (tgt := 131) dX8_sure_127 (by decide) ?_
          rw [e7]
          refine wv_istore dX8_sure_131 (by decide) ?_
          exact wv_le (by simp [wr_leq, wr_s1, wr_s2, wr_wide]) (tl J1 _ _ _ hfi rfl rfl rfl hf1)
      | succ k2 iq =>
        intro q ps J1 hfi hq hp hpit hf1
        refine wv_iload dX8_sure_93 rfl ?_
        refine wv_iload_n dX8_sure_95 rfl ?_
        refine wv_icmp_ge (tgt := 112) dX8_sure_96 (by decide) (fun h96 => absurd h96 (nI_ge (by omega) (by omega))) (fun h96 => ?_)
        refine wv_aload_n dX8_sure_99 rfl ?_
        refine wv_iconst (v := nI 0) dX8_sure_100 rfl ?_
        refine wv_iload dX8_sure_101 rfl ?_
        refine wv_v2 oX8_stepPlain kX8_484 dX8_sure_103 (by omega) (by first | assumption | rfl) ⟨rfl, by decide⟩ (Nat.le_of_ble_eq_true rfl) (Nat.le_of_ble_eq_true rfl) (x_stepP hR g ok (frP_g hf1 hg) 0 (by omega) i (by omega) ps hp) (fun v9 s9 J9 L9 R9 h9 => ?_)
        obtain ⟨rfl, rfl, rfl, rfl, hp9, hf9⟩ := h9
        refine wv_iinc (v := nI (q + 1)) dX8_sure_106 rfl (nI_1 (q)) (by decide) ?_
        refine wv_goto (tgt := 93) dX8_sure_109 (by decide) ?_
        exact wv_le (by simp [wr_leq, wr_s1, wr_s2, wr_wide]) (iq (q + 1) _ J9 hfi (by omega) hp9 hpit (frP_tr hf1 hf9))
    refine wv_iload dX8_sure_52 rfl ?_
    refine wv_sipush (v := 324) dX8_sure_54 (by decide) ?_
    refine wv_icmp_ge (tgt := 173) dX8_sure_57 (by decide) (fun h57 => absurd h57 (nI_ge (b := 324) (by omega) (by omega))) (fun h57 => ?_)
    refine wv_aload_n dX8_sure_60 rfl ?_
    refine wv_getR fX8_118 dX8_sure_61 rfl (by first | assumption | rfl) (by first | exact hR _ _ _ rfl | assumption) ?_
    refine wv_iload dX8_sure_64 rfl ?_
    refine wv_zaldN dX8_sure_66 (by first | assumption | rfl) (by omega) (by decide) ?_
    refine wv_if_ne (tgt := 73) dX8_sure_67 (by decide) (fun h67 => ?_) (fun h67 => ?_)
    · rw [ef, bI_0] at h67
      have hfi : fitS g i (kn m tk) = true := by simpa using h67
      refine wv_aload_n dX8_sure_73 rfl ?_
      refine wv_iconst (v := nI 0) dX8_sure_74 rfl ?_
      refine wv_aload_n dX8_sure_75 rfl ?_
      refine wv_getR fX8_112 dX8_sure_76 rfl (by first | assumption | rfl) (by first | exact hR _ _ _ rfl | assumption) ?_
      refine wv_aload_n dX8_sure_79 rfl ?_
      refine wv_getI fX8_477 dX8_sure_80 rfl (by first | assumption | rfl) ?_
      rw [hf.1 55 (by omega) (by omega) (by omega), hff2]
      refine wv_laldN dX8_sure_83 (by first | assumption | rfl) (by omega) (by decide) ?_
      rw [huf]
      refine wv_v2 oX8_startPlain kX8_480 dX8_sure_84 (by omega) (by first | assumption | rfl) ⟨rfl, by decide⟩ (Nat.le_of_ble_eq_true rfl) (Nat.le_of_ble_eq_true rfl) (x_startP hR g ok (frP_g hf hg) 0 (by omega) u) (fun v9 s9 J9 L9 R9 h9 => ?_)
      obtain ⟨rfl, rfl, rfl, rfl, hp9, hf9⟩ := h9
      refine wv_aload_n dX8_sure_87 rfl ?_
      refine wv_getI fX8_477 dX8_sure_88 rfl (by first | assumption | rfl) ?_
      rw [hf9.1 55 (by omega) (by omega) (by omega), hf.1 55 (by omega) (by omega) (by omega), hff2]
      refine wv_istore dX8_sure_91 (by decide) ?_
      exact wv_le (by simp [wr_leq, wr_s1, wr_s2, wr_wide]) (lq (mo - f) f _ J9 hfi (by omega) hp9 rfl (frP_tr hf hf9))
    · rw [ef, bI_0] at h67
      refine wv_goto (tgt := 167) dX8_sure_70 (by decide) ?_
      refine wv_iinc (v := nI (i + 1)) dX8_sure_167 rfl (nI_1 (i)) (by decide) ?_
      refine wv_goto (tgt := 52) dX8_sure_170 (by decide) ?_
      have e1 : cn (fun a => fitS g a (kn m tk) && shw g a f mo x u) (i + 1) = cn (fun a => fitS g a (kn m tk) && shw g a f mo x u) i := by simp [cn, h67]
      have e2 : cn (fun a => fitS g a (kn m tk)) (i + 1) = cn (fun a => fitS g a (kn m tk)) i := by simp [cn, h67]
      have := ih (i + 1) J (by omega) hf
      rw [e1, e2] at this
      exact wv_le (by simp [wr_leq, wr_s1, wr_s2, wr_wide]) this

set_option maxHeartbeats 4000000 in
set_option maxRecDepth 100000 in
theorem xW_sure {l : Launch} {I : wr_TI} {L : wr_TL} {R : wr_TR} (hR : wr_RC R) (g : RG) (ok : gOK g) (hg : mgV I g) (m : FM) (tk : Int32) (hM : mfV I L m) (hN : fmT m) (x mo : Int32) : wr_P l 5 mX8_sure [.ref 55, .int x, .int mo, .int tk] SH I L R (fun v s' I' L' R' => v = some (.int (aSure g (kn m tk) x mo)) ∧ s' = SH ∧ R' = R ∧ frK8 I L I' L') := by
  obtain ⟨k6, k40, -⟩ := id ok
  have hn : I 55 28 = nI (gN g) := hg.1
  have hcl := cn_le (fun a => fitS g a (kn m tk)) 324
  refine wv_pad 4 ?_
  show wr_V l 5 mX8_sure 0 [some (.ref 55), some (.int x), some (.int mo), some (.int tk), none, none, none, none] [] SH I L R 0 0 _
  refine wv_aload_n dX8_sure_0 rfl ?_
  refine wv_iload_n dX8_sure_1 rfl ?_
  refine wv_v1e oX8_isSeat kX8_435 dX8_sure_2 (by omega) (by first | assumption | rfl) ⟨rfl, by decide⟩ (Nat.le_of_ble_eq_true rfl) (Nat.le_of_ble_eq_true rfl) (x_isSeat _) ?_
  refine wv_if_eq (tgt := 41) dX8_sure_5 (by decide) (fun h5 => ?_) (fun h5 => ?_)
  · rw [hn, if10] at h5
    have hno : aSure g (kn m tk) x mo = -1 := sure_no (fun f _ q => absurd q.1 h5)
    refine wv_iconst (v := (-1)) dX8_sure_41 (by decide) ?_
    refine wv_iret rfl dX8_sure_42 ?_
    rw [← hno]
    first
      | (have _ := hf9; exact ⟨rfl, rfl, rfl, hf9⟩)
      | exact ⟨rfl, rfl, rfl, frK8_rf⟩
  · rw [hn, if10] at h5
    have hx : oS g x := Decidable.not_not.mp h5
    refine wv_iload_n dX8_sure_8 rfl ?_
    refine wv_if_lt (tgt := 41) dX8_sure_9 (by decide) (fun h9 => ?_) (fun h9 => ?_)
    · have hno : aSure g (kn m tk) x mo = -1 := sure_no (fun f hf q => absurd h9 (Int32.not_lt.mpr (Int32.le_trans (nI_pos' (by have := fst_lt hf; omega)) q.2.1)))
      refine wv_iconst (v := (-1)) dX8_sure_41 (by decide) ?_
      refine wv_iret rfl dX8_sure_42 ?_
      rw [← hno]
      first
        | (have _ := hf9; exact ⟨rfl, rfl, rfl, hf9⟩)
        | exact ⟨rfl, rfl, rfl, frK8_rf⟩
    · refine wv_iload_n dX8_sure_12 rfl ?_
      refine wv_bipush (v := 40) dX8_sure_13 (by decide) ?_
      refine wv_icmp_ge (tgt := 41) dX8_sure_15 (by decide) (fun h15 => ?_) (fun h15 => ?_)
      · have hno : aSure g (kn m tk) x mo = -1 := sure_no (fun f _ q => absurd q.2.2 (Int32.not_lt.mpr h15))
        refine wv_iconst (v := (-1)) dX8_sure_41 (by decide) ?_
        refine wv_iret rfl dX8_sure_42 ?_
        rw [← hno]
        first
          | (have _ := hf9; exact ⟨rfl, rfl, rfl, hf9⟩)
          | exact ⟨rfl, rfl, rfl, frK8_rf⟩
      · refine wv_aload_n dX8_sure_18 rfl ?_
        refine wv_iload_n dX8_sure_19 rfl ?_
        refine wv_v1 oX8_seekFits kX8_497 dX8_sure_20 (by omega) (by first | assumption | rfl) ⟨rfl, by decide⟩ (Nat.le_of_ble_eq_true rfl) (Nat.le_of_ble_eq_true rfl) (x_seek hR g ok hg m tk hM hN) (fun v9 s9 J9 L9 R9 h9 => ?_)
        obtain ⟨rfl, rfl, rfl, hk9, hi9, hf9⟩ := h9
        refine wv_if_eq (tgt := 41) dX8_sure_23 (by decide) (fun h23 => ?_) (fun h23 => ?_)
        · have hc0 : cn (fun a => fitS g a (kn m tk)) 324 = 0 := (nI_eq (b := 0) (by omega) (by omega)).mp h23
          have hno : aSure g (kn m tk) x mo = -1 := sure_no (fun f _ _ => hc0)
          refine wv_iconst (v := (-1)) dX8_sure_41 (by decide) ?_
          refine wv_iret rfl dX8_sure_42 ?_
          rw [← hno]
          first
            | (have _ := hf9; exact ⟨rfl, rfl, rfl, hf9⟩)
            | exact ⟨rfl, rfl, rfl, frK8_rf⟩
        · have hc0 : ¬ cn (fun a => fitS g a (kn m tk)) 324 = 0 := fun q => h23 (by rw [q]; rfl)
          refine wv_aload_n dX8_sure_26 rfl ?_
          refine wv_getI fX8_477 dX8_sure_27 rfl (by first | assumption | rfl) ?_
          refine wv_if_lt (tgt := 41) dX8_sure_30 (by decide) (fun h30 => ?_) (fun h30 => ?_)
          · rw [hk9.2.2] at h30
            have hno : aSure g (kn m tk) x mo = -1 := sure_no (fun f hf _ => by rw [hf] at h30; exact absurd h30 (nI_pos (by have := fst_lt hf; omega)))
            refine wv_iconst (v := (-1)) dX8_sure_41 (by decide) ?_
            refine wv_iret rfl dX8_sure_42 ?_
            rw [← hno]
            first
              | (have _ := hf9; exact ⟨rfl, rfl, rfl, hf9⟩)
              | exact ⟨rfl, rfl, rfl, frK8_rf⟩
          · rw [hk9.2.2] at h30
            obtain ⟨f, hff⟩ : ∃ f, fst (fun x => (kn m tk x).isSome) 40 = some f := by
              cases hz : fst (fun x => (kn m tk x).isSome) 40 with
              | none => rw [hz] at h30; exact absurd (show oI none < 0 by decide) h30
              | some f => exact ⟨f, rfl⟩
            obtain ⟨u, hu⟩ : ∃ u, kn m tk f = some u := by
              have := (fst_some hff).1
              cases hz : kn m tk f with
              | none => rw [hz] at this; simp at this
              | some u => exact ⟨u, rfl⟩
            have hff9 : J9 55 71 = nI f := by rw [hk9.2.2, hff]; rfl
            have hfl := fst_lt hff
            refine wv_iload_n dX8_sure_33 rfl ?_
            refine wv_aload_n dX8_sure_34 rfl ?_
            refine wv_getI fX8_477 dX8_sure_35 rfl (by first | assumption | rfl) ?_
            refine wv_icmp_ge (tgt := 43) dX8_sure_38 (by decide) (fun h38 => ?_) (fun h38 => ?_)
            · rw [hff9] at h38
              obtain ⟨a, ha, rfl⟩ := ix_of hx (by omega)
              obtain ⟨mq, hmq, rfl⟩ := nI_of h9
              have hm40 : mq < 40 := (nI_ltI hmq (by omega)).mp (Int32.not_le.mp h15)
              have hfm : f ≤ mq := (nI_leI (by omega) (by omega)).mp h38
              refine wv_iconst (v := 0) dX8_sure_43 rfl ?_
              refine wv_istore dX8_sure_44 (by decide) ?_
              refine wv_iconst (v := 1) dX8_sure_46 (by decide) ?_
              refine wv_istore dX8_sure_47 (by decide) ?_
              refine wv_iconst (v := nI 0) dX8_sure_49 rfl ?_
              refine wv_istore dX8_sure_50 (by decide) ?_
              refine wr_V.imp (wv_le (by simp [wr_leq, wr_s1, wr_s2, wr_wide, cn, bI]) (x_sureL (l := l) hR g ok m tk J9 L9 (frK8_g hf9 hg) hk9 hi9 f mq a u hff hu hfm hm40 ha hc0 324 0 J9 (by omega) frP_rf)) (fun v s' I' L' R' h => ?_)
              obtain ⟨q1, q2, q3, q4, q5⟩ := h
              refine ⟨q1.trans ?_, q2, q4, by rw [q3]; exact frK8_tr hf9 (frK8_P q5)⟩
              unfold aSure
              rw [hff]
              simp only
              rw [if_pos ⟨hx, h38, nI_lt (b := 40) hm40 (by omega)⟩, hu]
              simp only
              rw [tN_nI hmq, tN_nI (by omega)]
            · rw [hff9] at h38
              have hno : aSure g (kn m tk) x mo = -1 := sure_no (fun f2 hf2 q => by rw [hff] at hf2; cases hf2; exact absurd q.2.1 h38)
              refine wv_iconst (v := (-1)) dX8_sure_41 (by decide) ?_
              refine wv_iret rfl dX8_sure_42 ?_
              rw [← hno]
              first
                | (have _ := hf9; exact ⟨rfl, rfl, rfl, hf9⟩)
                | exact ⟨rfl, rfl, rfl, frK8_rf⟩

set_option maxHeartbeats 4000000 in
set_option maxRecDepth 100000 in
theorem x_isLaw {l : Launch} {I : wr_TI} {L : wr_TL} {R : wr_TR} (x : Int32) : wr_E l 0 mX8_isLaw [.int x] SH I L R (some (.int (if 0 ≤ x ∧ x < 324 then 1 else 0))) I L R := by
  refine wv_pad 0 ?_
  show wr_V l 0 mX8_isLaw 0 [some (.int x)] [] SH I L R 0 0 _
  refine wv_iload_n dX8_isLaw_0 rfl ?_
  refine wv_if_lt (tgt := 15) dX8_isLaw_1 (by decide) (fun h1 => ?_) (fun h1 => ?_)
  · refine wv_iconst (v := 0) dX8_isLaw_15 (by decide) ?_
    refine wv_zret rfl rfl dX8_isLaw_16 ?_
    refine ⟨?_, rfl, rfl, rfl, rfl⟩
    first | (rw [if_pos (by grind)]; done) | (rw [if_neg (by grind)]; done)
  · refine wv_iload_n dX8_isLaw_4 rfl ?_
    refine wv_sipush (v := 324) dX8_isLaw_5 (by decide) ?_
    refine wv_icmp_ge (tgt := 15) dX8_isLaw_8 (by decide) (fun h8 => ?_) (fun h8 => ?_)
    · refine wv_iconst (v := 0) dX8_isLaw_15 (by decide) ?_
      refine wv_zret rfl rfl dX8_isLaw_16 ?_
      refine ⟨?_, rfl, rfl, rfl, rfl⟩
      first | (rw [if_pos (by grind)]; done) | (rw [if_neg (by grind)]; done)
    · refine wv_iconst (v := 1) dX8_isLaw_11 (by decide) ?_
      refine wv_goto (tgt := 16) dX8_isLaw_12 (by decide) ?_
      refine wv_zret rfl rfl dX8_isLaw_16 ?_
      refine ⟨?_, rfl, rfl, rfl, rfl⟩
      first | (rw [if_pos (by grind)]; done) | (rw [if_neg (by grind)]; done)

def fr9 (I I' : wr_TI) : Prop := ∀ a, a ≠ 90 → a ≠ 91 → a ≠ 92 → I' a = I a
theorem fr9_P {r : Nat} {I J J' : wr_TI} (h : fr9 I J) (h2 : frP r J J') : fr9 I J' := fun a b1 b2 b3 => (h2.1 a b1 b2 b3).trans (h a b1 b2 b3)
theorem fr9_g {I J : wr_TI} {g : RG} (h : fr9 I J) (hg : mgV I g) : mgV J g := mgV_fr hg (fun k _ => by rw [h 55 (by omega) (by omega) (by omega)]) (fun a ha => h a (by omega) (by omega) (by omega))
set_option maxHeartbeats 4000000 in
set_option maxRecDepth 100000 in
theorem xW_same {l : Launch} {I : wr_TI} {L : wr_TL} {R : wr_TR} (hR : wr_RC R) (g : RG) (ok : gOK g) (hg : mgV I g) (y z : Int32) : wr_P l 3 mX8_same [.ref 55, .int y, .int z] SH I L R (fun v s' I' L' R' => v = some (.int (aSame g y z)) ∧ s' = SH ∧ L' = L ∧ R' = R ∧ fr9 I I') := by
  obtain ⟨k6, k40, -⟩ := id ok
  have core : ∀ a b : Nat, a < 324 → b < 324 → ∀ (kx x : Nat) (J : wr_TI), x + kx = gN g → (∀ n, n < 3 → ∀ x', x' < x → alS g a b (sfB (gN g) x' (n + 1)) = true) → fr9 I J → wr_V l 3 mX8_same 18 [some (.ref 55), some (.int (nI a)), some (.int (nI b)), some (.int (nI x)), none, none, none, none] [] SH J L R 0 0 (fun v s' I' L' R' => v = some (.int (if smS g a b = true then 1 else 0)) ∧ s' = SH ∧ L' = L ∧ R' = R ∧ fr9 I I') := by
    intro a b ha hb kx
    induction kx with
    | zero =>
      intro x J hx hdone hf
      obtain rfl : x = gN g := by omega
      refine wv_iload_n dX8_same_18 rfl ?_
      refine wv_aload_n dX8_same_19 rfl ?_
      refine wv_getI fX8_151 dX8_same_20 rfl (by first | assumption | rfl) ?_
      refine wv_icmp_ge (tgt := 123) dX8_same_23 (by decide) (fun h23 => ?_) (fun h23 => absurd (by rw [(fr9_g hf hg).1]; exact Int32.le_refl _) h23)
      refine wv_iconst (v := 1) dX8_same_123 (by decide) ?_
      refine wv_iret rfl dX8_same_124 ?_
      refine ⟨?_, rfl, rfl, rfl, hf⟩
      rw [if_pos (smS_iff.mpr hdone)]
    | succ kx ihx =>
      intro x J hx hdone hf
      have mid : ∀ (kn n : Nat) (u : Int64) (J : wr_TI), n + kn = 3 → lb u = sfB (gN g) x n → (∀ n', n' < n → alS g a b (sfB (gN g) x (n' + 1)) = true) → fr9 I J → wr_V l 3 mX8_same 32 [some (.ref 55), some (.int (nI a)), some (.int (nI b)), some (.int (nI x)), some (.long u), none, some (.int (nI n)), none] [] SH J L R 0 0 (fun v s' I' L' R' => v = some (.int (if smS g a b = true then 1 else 0)) ∧ s' = SH ∧ L' = L ∧ R' = R ∧ fr9 I I') := by
        intro kn
        induction kn with
        | zero =>
          intro n u J hn hu hdn hf
          obtain rfl : n = 3 := by omega
          refine wv_iload dX8_same_32 rfl ?_
          refine wv_iconst (v := 3) dX8_same_34 (by decide) ?_
          refine wv_icmp_ge (tgt := 117) dX8_same_35 (by decide) (fun h35 => ?_) (fun h35 => absurd (nI_le (a := 3) (by omega) (by omega)) h35)
          refine wv_iinc (v := nI (x + 1)) dX8_same_117 rfl (nI_1 (x)) (by decide) ?_
          refine wv_goto (tgt := 18) dX8_same_120 (by decide) ?_
          refine wv_le (by simp [wr_leq, wr_s1, wr_s2, wr_wide]) (ihx (x + 1) J (by omega) (fun n hn x' hx' => ?_) hf)
          by_cases hxx : x' = x
          · subst hxx; exact hdn n hn
          · exact hdone n hn x' (by omega)
        | succ kn ihn =>
          intro n u J hn hu hdn hf
          have hb0 := Nat.mod_lt (x + n) (by omega : 0 < gN g)
          have hu2 : lb (u ||| (1 <<< ((nI ((x + n) % gN g)).toInt64 &&& 63))) = sfB (gN g) x (n + 1) := by
            funext s
            rw [lb_or, hu, sfB_succ (by omega)]
            by_cases hs : s < 64
            · rw [lb_one _ (by omega) hs]
            · rw [lb_big (by omega)]
              have : ¬ s = (x + n) % gN g := by omega
              simp [this]
          have inn : ∀ (k i : Nat) (ps qs : Nat → Int32) (J : wr_TI), i + k = 60 → pV J 0 g ps → pV J 1 g qs → alk g a b k ps qs = alS g a b (sfB (gN g) x (n + 1)) → fr9 I J → wr_V l 3 mX8_same 70 [some (.ref 55), some (.int (nI a)), some (.int (nI b)), some (.int (nI x)), some (.long (u ||| (1 <<< ((nI ((x + n) % gN g)).toInt64 &&& 63)))), none, some (.int (nI n)), some (.int (nI i))] [] SH J L R 0 0 (fun v s' I' L' R' => v = some (.int (if smS g a b = true then 1 else 0)) ∧ s' = SH ∧ L' = L ∧ R' = R ∧ fr9 I I') := by
            intro k
            induction k with
            | zero =>
              intro i ps qs J hi hp hq hal hf
              have hal2 : alS g a b (sfB (gN g) x (n + 1)) = true := by rw [← hal]; rfl
              refine wv_iload dX8_same_70 rfl ?_
              refine wv_bipush (v := 60) dX8_same_72 (by decide) ?_
              refine wv_icmp_ge (tgt := 111) dX8_same_74 (by decide) (fun h74 => ?_) (fun h74 => absurd (nI_le (a := 60) (by omega) (by omega)) h74)
              refine wv_iinc (v := nI (n + 1)) dX8_same_111 rfl (nI_1 (n)) (by decide) ?_
              refine wv_goto (tgt := 32) dX8_same_114 (by decide) ?_
              refine wv_le (by simp [wr_leq, wr_s1, wr_s2, wr_wide]) (ihn (n + 1) _ J (by omega) hu2 (fun n' hn' => ?_) hf)
              by_cases hnn : n' = n
              · subst hnn; exact hal2
              · exact hdn n' (by omega)
            | succ k ihk =>
              intro i ps qs J hi hp hq hal hf
              refine wv_iload dX8_same_70 rfl ?_
              refine wv_bipush (v := 60) dX8_same_72 (by decide) ?_
              refine wv_icmp_ge (tgt := 111) dX8_same_74 (by decide) (fun h74 => absurd h74 (nI_ge (b := 60) (by omega) (by omega))) (fun h74 => ?_)
              refine wv_aload_n dX8_same_77 rfl ?_
              refine wv_iconst (v := nI 0) dX8_same_78 rfl ?_
              refine wv_iload_n dX8_same_79 rfl ?_
              refine wv_v2 oX8_stepPlain kX8_484 dX8_same_80 (by omega) (by first | assumption | rfl) ⟨rfl, by decide⟩ (Nat.le_of_ble_eq_true rfl) (Nat.le_of_ble_eq_true rfl) (x_stepP hR g ok (fr9_g hf hg) 0 (by omega) a ha ps hp) (fun v9 s9 J9 L9 R9 h9 => ?_)
              obtain ⟨rfl, rfl, rfl, rfl, hp9, hf9⟩ := h9
              refine wv_aload_n dX8_same_83 rfl ?_
              refine wv_iconst (v := nI 1) dX8_same_84 rfl ?_
              refine wv_iload_n dX8_same_85 rfl ?_
              refine wv_v2 oX8_stepPlain kX8_484 dX8_same_86 (by omega) (by first | assumption | rfl) ⟨rfl, by decide⟩ (Nat.le_of_ble_eq_true rfl) (Nat.le_of_ble_eq_true rfl) (x_stepP hR g ok (fr9_g (fr9_P hf hf9) hg) 1 (by omega) b hb qs (frP_o hf9 (by omega) k40 hq)) (fun v8 s8 J8 L8 R8 h9 => ?_)
              obtain ⟨rfl, rfl, rfl, rfl, hq8, hf8⟩ := h9
              refine wv_aload_n dX8_same_89 rfl ?_
              refine wv_iconst (v := nI 0) dX8_same_90 rfl ?_
              refine wv_v1e oX8_upsOf kX8_487 dX8_same_91 (by omega) (by first | assumption | rfl) ⟨rfl, by decide⟩ (Nat.le_of_ble_eq_true rfl) (Nat.le_of_ble_eq_true rfl) (x_upsOf hR g k40 (fr9_g (fr9_P (fr9_P hf hf9) hf8) hg).1 0 (by omega) _ (frP_o hf8 (by omega) k40 hp9)) ?_
              refine wv_aload_n dX8_same_94 rfl ?_
              refine wv_iconst (v := nI 1) dX8_same_95 rfl ?_
              refine wv_v1e oX8_upsOf kX8_487 dX8_same_96 (by omega) (by first | assumption | rfl) ⟨rfl, by decide⟩ (Nat.le_of_ble_eq_true rfl) (Nat.le_of_ble_eq_true rfl) (x_upsOf hR g k40 (fr9_g (fr9_P (fr9_P hf hf9) hf8) hg).1 1 (by omega) _ hq8) ?_
              refine wv_lcmp dX8_same_99 ?_
              refine wv_if_eq (tgt := 105) dX8_same_100 (by decide) (fun h100 => ?_) (fun h100 => ?_)
              · rw [lg_cmp_eq] at h100
                refine wv_iinc (v := nI (i + 1)) dX8_same_105 rfl (nI_1 (i)) (by decide) ?_
                refine wv_goto (tgt := 70) dX8_same_108 (by decide) ?_
                refine wv_le (by simp [wr_leq, wr_s1, wr_s2, wr_wide]) (ihk (i + 1) _ _ J8 (by omega) (frP_o hf8 (by omega) k40 hp9) hq8 ?_ (fr9_P (fr9_P hf hf9) hf8))
                rw [← hal, alk]
                simp [h100]
              · rw [lg_cmp_eq] at h100
                refine wv_iconst (v := 0) dX8_same_103 (by decide) ?_
                refine wv_iret rfl dX8_same_104 ?_
                refine ⟨?_, rfl, rfl, rfl, fr9_P (fr9_P hf hf9) hf8⟩
                have hno : ¬ smS g a b = true := fun q => by
                  have := smS_iff.mp q n (by omega) x (by omega)
                  rw [← hal, alk] at this
                  simp [h100] at this
                rw [if_neg hno]
          refine wv_iload dX8_same_32 rfl ?_
          refine wv_iconst (v := 3) dX8_same_34 (by decide) ?_
          refine wv_icmp_ge (tgt := 117) dX8_same_35 (by decide) (fun h35 => absurd h35 (nI_ge (b := 3) (by omega) (by omega))) (fun h35 => ?_)
          refine wv_lload dX8_same_38 rfl ?_
          refine wv_lconst (v := 1) dX8_same_40 (by decide) ?_
          refine wv_aload_n dX8_same_41 rfl ?_
          refine wv_iload_n dX8_same_42 rfl ?_
          refine wv_iload dX8_same_43 rfl ?_
          refine wv_iadd dX8_same_45 ?_
          rw [nI_add]
          refine wv_v1e oX8_wrap kX8_396 dX8_same_46 (by omega) (by first | assumption | rfl) ⟨rfl, by decide⟩ (Nat.le_of_ble_eq_true rfl) (Nat.le_of_ble_eq_true rfl) (x_wrap (gN g) (x + n) (fr9_g hf hg).1 (by omega) k40 (by omega)) ?_
          refine wv_lshl dX8_same_49 ?_
          refine wv_lor dX8_same_50 ?_
          refine wv_lstore dX8_same_51 (by decide) ?_
          refine wv_aload_n dX8_same_53 rfl ?_
          refine wv_iconst (v := nI 0) dX8_same_54 rfl ?_
          refine wv_lload dX8_same_55 rfl ?_
          refine wv_v2 oX8_startPlain kX8_480 dX8_same_57 (by omega) (by first | assumption | rfl) ⟨rfl, by decide⟩ (Nat.le_of_ble_eq_true rfl) (Nat.le_of_ble_eq_true rfl) (x_startP hR g ok (fr9_g hf hg) 0 (by omega) _) (fun v9 s9 J9 L9 R9 h9 => ?_)
          obtain ⟨rfl, rfl, rfl, rfl, hp9, hf9⟩ := h9
          refine wv_aload_n dX8_same_60 rfl ?_
          refine wv_iconst (v := nI 1) dX8_same_61 rfl ?_
          refine wv_lload dX8_same_62 rfl ?_
          refine wv_v2 oX8_startPlain kX8_480 dX8_same_64 (by omega) (by first | assumption | rfl) ⟨rfl, by decide⟩ (Nat.le_of_ble_eq_true rfl) (Nat.le_of_ble_eq_true rfl) (x_startP hR g ok (fr9_g (fr9_P hf hf9) hg) 1 (by omega) _) (fun v8 s8 J8 L8 R8 h9 => ?_)
          obtain ⟨rfl, rfl, rfl, rfl, hq8, hf8⟩ := h9
          refine wv_iconst (v := nI 0) dX8_same_67 rfl ?_
          refine wv_istore dX8_same_68 (by decide) ?_
          exact wv_le (by simp [wr_leq, wr_s1, wr_s2, wr_wide]) (inn 60 0 _ _ J8 (by omega) (frP_o hf8 (by omega) k40 hp9) hq8 (by rw [hu2]; rfl) (fr9_P (fr9_P hf hf9) hf8))
      refine wv_iload_n dX8_same_18 rfl ?_
      refine wv_aload_n dX8_same_19 rfl ?_
      refine wv_getI fX8_151 dX8_same_20 rfl (by first | assumption | rfl) ?_
      refine wv_icmp_ge (tgt := 123) dX8_same_23 (by decide) (fun h23 => absurd h23 (by rw [(fr9_g hf hg).1]; exact nI_ge (by omega) (by omega))) (fun h23 => ?_)
      refine wv_lconst (v := 0) dX8_same_26 (by decide) ?_
      refine wv_lstore dX8_same_27 (by decide) ?_
      refine wv_iconst (v := nI 0) dX8_same_29 rfl ?_
      refine wv_istore dX8_same_30 (by decide) ?_
      exact wv_le (by simp [wr_leq, wr_s1, wr_s2, wr_wide]) (mid 3 0 0 J (by omega) (by funext s; rw [lb_0, sfB_0]) (fun n hn => by omega) hf)
  refine wv_pad 5 ?_
  show wr_V l 3 mX8_same 0 [some (.ref 55), some (.int y), some (.int z), none, none, none, none, none] [] SH I L R 0 0 _
  refine wv_iload_n dX8_same_0 rfl ?_
  refine wv_s1e oX8_isLaw kX8_500 dX8_same_1 (by omega) (Nat.le_of_ble_eq_true rfl) (Nat.le_of_ble_eq_true rfl) (x_isLaw _) ?_
  refine wv_if_eq (tgt := 14) dX8_same_4 (by decide) (fun h4 => ?_) (fun h4 => ?_)
  · rw [if10] at h4
    have hno : ¬ ((0 ≤ y ∧ y < 324) ∧ (0 ≤ z ∧ z < 324)) := fun q => h4 q.1
    refine wv_iconst (v := (-1)) dX8_same_14 (by decide) ?_
    refine wv_iret rfl dX8_same_15 ?_
    refine ⟨?_, rfl, rfl, rfl, fun _ _ _ _ => rfl⟩
    unfold aSame
    rw [if_neg hno]
  · rw [if10, Decidable.not_not] at h4
    refine wv_iload_n dX8_same_7 rfl ?_
    refine wv_s1e oX8_isLaw kX8_500 dX8_same_8 (by omega) (Nat.le_of_ble_eq_true rfl) (Nat.le_of_ble_eq_true rfl) (x_isLaw _) ?_
    refine wv_if_ne (tgt := 16) dX8_same_11 (by decide) (fun h11 => ?_) (fun h11 => ?_)
    · rw [if10, Decidable.not_not] at h11
      obtain ⟨a, ha, rfl⟩ := ix_of (n := 324) h4 (by omega)
      obtain ⟨b, hb, rfl⟩ := ix_of (n := 324) h11 (by omega)
      refine wv_iconst (v := nI 0) dX8_same_16 rfl ?_
      refine wv_istore_k (i := 3) dX8_same_17 rfl (by decide) ?_
      refine wr_V.imp (wv_le (by simp [wr_leq, wr_s1, wr_s2, wr_wide]) (core a b ha hb (gN g) 0 I (by omega) (fun n _ x' h => by omega) (fun _ _ _ _ => rfl))) (fun v s' I' L' R' h => ⟨h.1.trans ?_, h.2⟩)
      unfold aSame
      rw [if_pos (show (0 ≤ nI a ∧ nI a < 324) ∧ 0 ≤ nI b ∧ nI b < 324 from ⟨h4, h11⟩), tN_nI (by omega), tN_nI (by omega)]
    · rw [if10] at h11
      have hno : ¬ ((0 ≤ y ∧ y < 324) ∧ (0 ≤ z ∧ z < 324)) := fun q => h11 q.2
      refine wv_iconst (v := (-1)) dX8_same_14 (by decide) ?_
      refine wv_iret rfl dX8_same_15 ?_
      refine ⟨?_, rfl, rfl, rfl, fun _ _ _ _ => rfl⟩
      unfold aSame
      rw [if_neg hno]

