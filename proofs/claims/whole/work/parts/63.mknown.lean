/-! the model: what is known, which laws fit -/
def bd (g : RG) (kx : Nat → Option Int64) (x : Nat) : Bool := match kx x with
  | some u => !decide (cn (fun s => lb u s && gG g s) (gN g) = 0)
  | none => false
def gd (g : RG) (kx : Nat → Option Int64) (q : Nat) : Bool := decide (cn (fun x => decide (q ≤ x) && bd g kx x) 40 = 0)
theorem gd_iff {g : RG} {kx : Nat → Option Int64} {q : Nat} : gd g kx q = true ↔ ∀ x, x < 40 → q ≤ x → bd g kx x = false := by
  unfold gd
  rw [decide_eq_true_iff, cn_pos]
  constructor
  · intro h x h1 h2
    have := h x h1
    simpa [h2] using this
  · intro h x h1
    by_cases h2 : q ≤ x
    · simp [h2, h x h1 h2]
    · simp [h2]
def fsu (p : Nat → Bool) : Nat → Nat → Option Nat
  | _, 0 => none
  | m, k + 1 => if p m = true then some m else fsu p (m + 1) k
theorem fsu_s (p : Nat → Bool) : ∀ k m, fsu p m (k + 1) = match fsu p m k with
    | some y => some y
    | none => if p (m + k) = true then some (m + k) else none := by
  intro k
  induction k with
  | zero => intro m; simp [fsu]
  | succ k ih =>
    intro m
    rw [fsu]
    by_cases h : p m = true
    · rw [if_pos h, fsu, if_pos h]
    · rw [if_neg h, ih (m + 1), fsu, if_neg h, show m + 1 + k = m + (k + 1) by omega]
theorem fsu_fst (p : Nat → Bool) : ∀ n, fsu p 0 n = fst p n := by
  intro n
  induction n with
  | zero => rfl
  | succ n ih => rw [fsu_s, ih, fst, Nat.zero_add]; rfl
theorem gap_pst {g : RG} {a : Nat} {ps : Nat → Int32} (h : ∀ s, s < gN g → gG g s = true → ps s = 40) : ∀ s, s < gN g → gG g s = true → pst g a ps s = 40 := by
  intro s hs hg
  unfold pst
  rw [if_pos hs, if_neg (fun q => by rw [h s hs hg] at q; exact absurd q.1 (by decide)), h s hs hg]
  simp [beh, isU]
theorem gap_uL {g : RG} {ps : Nat → Int32} (k40 : gN g ≤ 40) (h : ∀ s, s < gN g → gG g s = true → ps s = 40) : cn (fun s => lb (uL (gN g) ps) s && gG g s) (gN g) = 0 := by
  rw [cn_pos]
  intro s hs
  cases hg : gG g s with
  | false => simp
  | true =>
    unfold uL
    rw [lb_orb _ _ _ (by omega) s (by omega), h s hs hg]
    simp [isU, lb_0]
theorem flG_gap {g : RG} {a : Nat} {kx : Nat → Option Int64} (k40 : gN g ≤ 40) : ∀ k m ps, (∀ s, s < gN g → gG g s = true → ps s = 40) → flG g a kx k m ps = true → ∀ x, m ≤ x → x < m + k → bd g kx x = false := by
  intro k
  induction k with
  | zero => intro m ps _ _ x h1 h2; omega
  | succ k ih =>
    intro m ps hp h x h1 h2
    simp only [flG, Bool.and_eq_true] at h
    have hq := gap_pst (a := a) hp
    by_cases hx : x = m
    · subst hx
      unfold bd
      cases hk : kx x with
      | none => rfl
      | some u =>
        have h9 := h.1
        rw [hk] at h9
        simp only [decide_eq_true_eq] at h9
        simp only [← h9]
        rw [gap_uL k40 hq]
        rfl
    · exact ih (m + 1) _ hq h.2 x (by omega) (by omega)
def fit2 (g : RG) (a : Nat) (kx : Nat → Option Int64) : Bool := match fst (fun x => (kx x).isSome) 40 with
  | none => true
  | some f => match kx f with
    | none => true
    | some u => flG g a kx (39 - f) (f + 1) (ps0 g (lb u))
theorem fit_good {g : RG} {a : Nat} {kx : Nat → Option Int64} (k40 : gN g ≤ 40) : fitS g a kx = (gd g kx 0 && fit2 g a kx) := by
  unfold fitS fit2
  cases hf : fst (fun x => (kx x).isSome) 40 with
  | none =>
    have hn : ∀ x, x < 40 → kx x = none := by
      intro x hx
      have hz : ∀ n, fst (fun x => (kx x).isSome) n = none → ∀ y, y < n → (kx y).isSome = false := by
        intro n
        induction n with
        | zero => intro _ y hy; omega
        | succ n ih =>
          intro h y hy
          simp only [fst] at h
          cases h1 : fst (fun x => (kx x).isSome) n with
          | some z => rw [h1] at h; simp at h
          | none =>
            rw [h1] at h
            simp only at h
            by_cases hyn : y = n
            · subst hyn
              cases h2 : (kx y).isSome with
              | false => rfl
              | true => simp [h2] at h
            · exact ih h1 y (by omega)
      have := hz 40 hf x hx
      cases h3 : kx x with
      | none => rfl
      | some u => rw [h3] at this; simp at this
    have : gd g kx 0 = true := by
      rw [gd_iff]
      intro x hx _
      unfold bd
      rw [hn x hx]
    simp [this]
  | some f =>
    have hfl := fst_lt hf
    have hmin := (fst_some hf).2
    cases hk : kx f with
    | none =>
      have := (fst_some hf).1
      rw [hk] at this
      simp at this
    | some u =>
      simp only [hk]
      have hp0 : ∀ s, s < gN g → gG g s = true → ps0 g (lb u) s = 40 := fun s _ hg => by simp [ps0, hg]
      cases hfl2 : flG g a kx (39 - f) (f + 1) (ps0 g (lb u)) with
      | false => simp
      | true =>
        have hlater := flG_gap k40 (39 - f) (f + 1) _ hp0 hfl2
        simp only [Bool.and_true]
        have hbf : bd g kx f = !decide (cn (fun s => lb u s && gG g s) (gN g) = 0) := by unfold bd; rw [hk]
        rw [Bool.eq_iff_iff, gd_iff, decide_eq_true_iff]
        constructor
        · intro h x hx _
          by_cases h1 : x < f
          · have := hmin x h1
            unfold bd
            cases h3 : kx x with
            | none => rfl
            | some v => rw [h3] at this; simp at this
          · by_cases h2 : x = f
            · subst h2; rw [hbf]; simp [h]
            · exact hlater x (by omega) (by omega)
        · intro h
          have := h f hfl (Nat.zero_le _)
          rw [hbf] at this
          simpa using this
/-- what the model knows at a time -/
def kM (I : wr_TI) (L : wr_TL) (kx : Nat → Option Int64) : Prop := (∀ x, x < 40 → I 88 x = bI (kx x).isSome) ∧ (∀ x u, x < 40 → kx x = some u → L 87 x = u) ∧ I 55 71 = oI (fst (fun x => (kx x).isSome) 40)
def frK8 (I : wr_TI) (L : wr_TL) (I' : wr_TI) (L' : wr_TL) : Prop := frM (fun a => 88 ≤ a ∧ a ≤ 92) (fun k => k = 71) I I' ∧ ∀ b, b ≠ 87 → L' b = L b
theorem frK8_rf {I : wr_TI} {L : wr_TL} : frK8 I L I L := ⟨frM_rf, fun _ _ => rfl⟩
theorem frK8_tr {I I1 I2 : wr_TI} {L L1 L2 : wr_TL} (h1 : frK8 I L I1 L1) (h2 : frK8 I1 L1 I2 L2) : frK8 I L I2 L2 := ⟨frM_tr h1.1 h2.1, fun b hb => (h2.2 b hb).trans (h1.2 b hb)⟩
theorem frK8_g {I I' : wr_TI} {L L' : wr_TL} {g : RG} (h : frK8 I L I' L') (hg : mgV I g) : mgV I' g := mgV_fr hg (fun k hk => h.1.2 k (by omega)) (fun a ha => h.1.1 a (by omega) (by omega))
theorem frK8_P {r : Nat} {I I' : wr_TI} {L : wr_TL} (h : frP r I I') : frK8 I L I' L := ⟨⟨fun a h1 h2 => h.1 a (by omega) (by omega) (by omega), fun k _ => by rw [h.1 55 (by omega) (by omega) (by omega)]⟩, fun _ _ => rfl⟩
theorem kM_P {r : Nat} {I I' : wr_TI} {L : wr_TL} {kx : Nat → Option Int64} (h : frP r I I') (hk : kM I L kx) : kM I' L kx := by
  unfold kM at hk ⊢
  rw [h.1 88 (by omega) (by omega) (by omega), h.1 55 (by omega) (by omega) (by omega)]
  exact hk
theorem gd_40 (g : RG) (kx : Nat → Option Int64) : gd g kx 40 = true := by
  rw [gd_iff]
  intro x h1 h2
  omega
theorem gd_s (g : RG) (kx : Nat → Option Int64) {q : Nat} (hq : q < 40) : gd g kx q = (gd g kx (q + 1) && !bd g kx q) := by
  rw [Bool.eq_iff_iff, Bool.and_eq_true, gd_iff, gd_iff]
  constructor
  · intro h
    exact ⟨fun x h1 h2 => h x h1 (by omega), by rw [h q hq (Nat.le_refl _)]; rfl⟩
  · intro ⟨h1, h2⟩ x h3 h4
    by_cases hx : x = q
    · subst hx; simpa using h2
    · exact h1 x h3 (by omega)
theorem fmC_m {m : FM} (hN : fmT m) {f : Nat} (hf : f < m.1) {k : Int32} : fmC m f k = true ↔ ¬ (k < m.2.2.2.1 f ∨ (0 ≤ m.2.2.2.2 f ∧ m.2.2.2.2 f ≤ k)) := by
  unfold fmC
  have := hN f hf
  generalize m.2.2.2.1 f = x at *
  generalize m.2.2.2.2 f = y at *
  simp only [Bool.and_eq_true, Bool.not_eq_true', decide_eq_true_eq, Bool.and_eq_false_iff, decide_eq_false_iff_not]
  constructor
  · intro h
    grind
  · intro h
    grind
theorem kn_fs {kx : Nat → Option Int64} {q : Nat} (hq : q < 40) : oI (fsu (fun x => (kx x).isSome) q (40 - q)) = if (kx q).isSome = true then nI q else oI (fsu (fun x => (kx x).isSome) (q + 1) (40 - (q + 1))) := by
  rw [show 40 - q = (40 - (q + 1)) + 1 by omega, fsu]
  by_cases h : (kx q).isSome = true
  · simp [h, oI]
  · simp [h]
set_option maxHeartbeats 4000000 in
set_option maxRecDepth 100000 in
theorem x_layOut {l : Launch} {I : wr_TI} {L : wr_TL} {R : wr_TR} (hR : wr_RC R) (g : RG) (ok : gOK g) (hg : mgV I g) (m : FM) (tk : Int32) (hM : mfV I L m) (hN : fmT m) : wr_P l 0 mX8_layOut [.ref 55, .int tk] SH I L R (fun v s' I' L' R' => v = some (.int (bI (gd g (kn m tk) 0))) ∧ s' = SH ∧ R' = R ∧ kM I' L' (kn m tk) ∧ frK8 I L I' L') := by
  obtain ⟨k6, k40, -⟩ := id ok
  -- the moments, the last first
  have l3 : ∀ (K : wr_TL), (∀ x u, x < 40 → kn m tk x = some u → K 87 x = u) → (∀ b, b ≠ 87 → K b = L b) → ∀ (q : Nat) (J : wr_TI), q ≤ 40 → (∀ x, x < 40 → J 88 x = bI (kn m tk x).isSome) → J 55 71 = oI (fsu (fun x => (kn m tk x).isSome) q (40 - q)) → frM (fun a => 88 ≤ a ∧ a ≤ 92) (fun k => k = 71) I J → wr_V l 0 mX8_layOut 108 [some (.ref 55), none, some (.int (bI (gd g (kn m tk) q))), some (.int (nI q - 1)), none] [] SH J K R 0 0 (fun v s' I' L' R' => v = some (.int (bI (gd g (kn m tk) 0))) ∧ s' = SH ∧ R' = R ∧ kM I' L' (kn m tk) ∧ frK8 I L I' L') := by
    intro K hK hKf q
    induction q with
    | zero =>
      intro J hq h1 h2 hf
      refine wv_iload_n dX8_layOut_108 rfl ?_
      refine wv_if_lt (tgt := 202) dX8_layOut_109 (by decide) (fun h109 => ?_) (fun h109 => absurd (by decide) h109)
      refine wv_iload_n dX8_layOut_202 rfl ?_
      refine wv_zret rfl (bI_nar _) dX8_layOut_203 ?_
      exact ⟨rfl, rfl, rfl, ⟨h1, hK, by rw [h2, ← fsu_fst]⟩, hf, hKf⟩
    | succ q ih =>
      intro J hq h1 h2 hf
      have eq1 : nI (q + 1) - 1 = nI q := by rw [← nI_1]; exact Int32.add_sub_cancel _ _
      rw [eq1]
      have hx := h1 q (by omega)
      have hfs := kn_fs (kx := kn m tk) (q := q) (by omega)
      have hgs := gd_s g (kn m tk) (q := q) (by omega)
      -- the seats of one moment
      have inn : ∀ (J9 : wr_TI), (∀ x, x < 40 → J9 88 x = bI (kn m tk x).isSome) → J9 55 71 = oI (fsu (fun x => (kn m tk x).isSome) q (40 - q)) → frM (fun a => 88 ≤ a ∧ a ≤ 92) (fun k => k = 71) I J9 → wr_V l 0 mX8_layOut 136 [some (.ref 55), none, some (.int (bI (gd g (kn m tk) (q + 1)))), some (.int (nI q)), some (.int (nI 0))] [] SH J9 K R 0 0 (fun v s' I' L' R' => v = some (.int (bI (gd g (kn m tk) 0))) ∧ s' = SH ∧ R' = R ∧ kM I' L' (kn m tk) ∧ frK8 I L I' L') := by
        intro J9 j1 j2 j3
        have jx := j1 q (by omega)
        have jn : J9 55 28 = nI (gN g) := by rw [j3.2 28 (by omega)]; exact hg.1
        cases hk : kn m tk q with
        | none =>
          have hb : bd g (kn m tk) q = false := by unfold bd; rw [hk]
          rw [hb, Bool.not_false, Bool.and_true] at hgs
          rw [hk] at jx
          have ef : (39 - (40 - (q + 1)) = q) := by omega
          refine wv_iload dX8_layOut_136 rfl ?_
          refine wv_aload_n dX8_layOut_138 rfl ?_
          refine wv_getI fX8_151 dX8_layOut_139 rfl (by first | assumption | rfl) ?_
          refine wv_icmp_ge (tgt := 196) dX8_layOut_142 (by decide) (fun h142 => absurd h142 (by rw [jn]; exact nI_ge (by omega) (by omega))) (fun h142 => ?_)
          refine wv_aload_n dX8_layOut_145 rfl ?_
          refine wv_getR fX8_115 dX8_layOut_146 rfl (by first | assumption | rfl) (by first | exact hR _ _ _ rfl | assumption) ?_
          refine wv_iload_n dX8_layOut_149 rfl ?_
          refine wv_zaldN dX8_layOut_150 (by first | assumption | rfl) (by omega) (by decide) ?_
          refine wv_if_eq (tgt := 196) dX8_layOut_151 (by decide) (fun h151 => ?_) (fun h151 => absurd jx h151)
          refine wv_iinc (v := nI q - 1) dX8_layOut_196 rfl (by rw [Int32.sub_eq_add_neg]; rfl) (by decide) ?_
          refine wv_goto (tgt := 108) dX8_layOut_199 (by decide) ?_
          rw [← hgs]
          exact wv_le (by simp [wr_leq, wr_s1, wr_s2, wr_wide]) (ih J9 (by omega) j1 j2 j3)
        | some u =>
          have hb : bd g (kn m tk) q = !decide (cn (fun s => lb u s && gG g s) (gN g) = 0) := by unfold bd; rw [hk]
          have hu := hK q u (by omega) hk
          rw [hk] at jx
          have lp : ∀ (k i : Nat), i + k = gN g → wr_V l 0 mX8_layOut 136 [some (.ref 55), none, some (.int (bI (gd g (kn m tk) (q + 1) && decide ((cn (fun s => lb u s && gG g s) i) = 0)))), some (.int (nI q)), some (.int (nI i))] [] SH J9 K R 0 0 (fun v s' I' L' R' => v = some (.int (bI (gd g (kn m tk) 0))) ∧ s' = SH ∧ R' = R ∧ kM I' L' (kn m tk) ∧ frK8 I L I' L') := by
            intro k
            induction k with
            | zero =>
              intro i hi
              obtain rfl : i = gN g := by omega
              rw [show (gd g (kn m tk) (q + 1) && decide ((cn (fun s => lb u s && gG g s) (gN g)) = 0)) = gd g (kn m tk) q from by rw [hgs, hb]; simp]
              refine wv_iload dX8_layOut_136 rfl ?_
              refine wv_aload_n dX8_layOut_138 rfl ?_
              refine wv_getI fX8_151 dX8_layOut_139 rfl (by first | assumption | rfl) ?_
              refine wv_icmp_ge (tgt := 196) dX8_layOut_142 (by decide) (fun h142 => ?_) (fun h142 => absurd (by rw [jn]; exact Int32.le_refl _) h142)
              refine wv_iinc (v := nI q - 1) dX8_layOut_196 rfl (by rw [Int32.sub_eq_add_neg]; rfl) (by decide) ?_
              refine wv_goto (tgt := 108) dX8_layOut_199 (by decide) ?_
              exact wv_le (by simp [wr_leq, wr_s1, wr_s2, wr_wide]) (ih J9 (by omega) j1 j2 j3)
            | succ k iq =>
              intro i hi
              have eg : J9 61 i = bI (gG g i) := by rw [j3.1 61 (by omega) (by omega)]; exact hg.2.1 i (by omega)
              have ec : (cn (fun s => lb u s && gG g s) (i + 1)) = (cn (fun s => lb u s && gG g s) i) + (if (lb u i && gG g i) = true then 1 else 0) := rfl
              refine wv_iload dX8_layOut_136 rfl ?_
              refine wv_aload_n dX8_layOut_138 rfl ?_
              refine wv_getI fX8_151 dX8_layOut_139 rfl (by first | assumption | rfl) ?_
              refine wv_icmp_ge (tgt := 196) dX8_layOut_142 (by decide) (fun h142 => absurd h142 (by rw [jn]; exact nI_ge (by omega) (by omega))) (fun h142 => ?_)
              refine wv_aload_n dX8_layOut_145 rfl ?_
              refine wv_getR fX8_115 dX8_layOut_146 rfl (by first | assumption | rfl) (by first | exact hR _ _ _ rfl | assumption) ?_
              refine wv_iload_n dX8_layOut_149 rfl ?_
              refine wv_zaldN dX8_layOut_150 (by first | assumption | rfl) (by omega) (by decide) ?_
              refine wv_if_eq (tgt := 196) dX8_layOut_151 (by decide) (fun h151 => absurd h151 (by rw [jx]; simp [bI])) (fun h151 => ?_)
              refine wv_iload_n dX8_layOut_154 rfl ?_
              refine wv_if_eq (tgt := 188) dX8_layOut_155 (by decide) (fun h155 => ?_) (fun h155 => ?_)
              · rw [bI_0] at h155
                have e : (gd g (kn m tk) (q + 1) && decide ((cn (fun s => lb u s && gG g s) (i + 1)) = 0)) = false := by
                  rw [ec]
                  cases hG : gd g (kn m tk) (q + 1) with
                  | false => rfl
                  | true =>
                    rw [hG] at h155
                    simp at h155
                    simp [h155]
                refine wv_iconst (v := 0) dX8_layOut_188 (by decide) ?_
                refine wv_istore_k (i := 2) dX8_layOut_189 rfl (by decide) ?_
                refine wv_iinc (v := nI (i + 1)) dX8_layOut_190 rfl (nI_1 (i)) (by decide) ?_
                refine wv_goto (tgt := 136) dX8_layOut_193 (by decide) ?_
                have := iq (i + 1) (by omega)
                rw [e] at this
                exact wv_le (by simp [wr_leq, wr_s1, wr_s2, wr_wide, bI]) this
              · rw [bI_0] at h155
                have h155b : gd g (kn m tk) (q + 1) = true ∧ (cn (fun s => lb u s && gG g s) i) = 0 := by simpa using h155
                refine wv_aload_n dX8_layOut_158 rfl ?_
                refine wv_getR fX8_30 dX8_layOut_159 rfl (by first | assumption | rfl) (by first | exact hR _ _ _ rfl | assumption) ?_
                refine wv_iload dX8_layOut_162 rfl ?_
                refine wv_zaldN dX8_layOut_164 (by first | assumption | rfl) (by omega) (by decide) ?_
                refine wv_if_eq (tgt := 184) dX8_layOut_165 (by decide) (fun h165 => ?_) (fun h165 => ?_)
                · rw [eg, bI_0] at h165
                  have e : (gd g (kn m tk) (q + 1) && decide ((cn (fun s => lb u s && gG g s) (i + 1)) = 0)) = true := by
                    rw [ec, h155b.1, h155b.2]
                    simp [h165]
                  refine wv_iconst (v := 1) dX8_layOut_184 (by decide) ?_
                  refine wv_goto (tgt := 189) dX8_layOut_185 (by decide) ?_
                  refine wv_istore_k (i := 2) dX8_layOut_189 rfl (by decide) ?_
                  refine wv_iinc (v := nI (i + 1)) dX8_layOut_190 rfl (nI_1 (i)) (by decide) ?_
                  refine wv_goto (tgt := 136) dX8_layOut_193 (by decide) ?_
                  have := iq (i + 1) (by omega)
                  rw [e] at this
                  exact wv_le (by simp [wr_leq, wr_s1, wr_s2, wr_wide, bI]) this
                · rw [eg, bI_0] at h165
                  refine wv_aload_n dX8_layOut_168 rfl ?_
                  refine wv_getR fX8_112 dX8_layOut_169 rfl (by first | assumption | rfl) (by first | exact hR _ _ _ rfl | assumption) ?_
                  refine wv_iload_n dX8_layOut_172 rfl ?_
                  refine wv_laldN dX8_layOut_173 (by first | assumption | rfl) (by omega) (by decide) ?_
                  refine wv_iload dX8_layOut_174 rfl ?_
                  refine wv_lshr dX8_layOut_176 ?_
                  refine wv_lconst (v := 1) dX8_layOut_177 (by decide) ?_
                  refine wv_land dX8_layOut_178 ?_
                  refine wv_lconst (v := 1) dX8_layOut_179 (by decide) ?_
                  refine wv_lcmp dX8_layOut_180 ?_
                  refine wv_if_eq (tgt := 188) dX8_layOut_181 (by decide) (fun h181 => ?_) (fun h181 => ?_)
                  · rw [lg_cmp_eq, hu, bit1 u (by omega)] at h181
                    have e : (gd g (kn m tk) (q + 1) && decide ((cn (fun s => lb u s && gG g s) (i + 1)) = 0)) = false := by
                      rw [ec]
                      simp at h165
                      simp [h165, h181]
                    refine wv_iconst (v := 0) dX8_layOut_188 (by decide) ?_
                    refine wv_istore_k (i := 2) dX8_layOut_189 rfl (by decide) ?_
                    refine wv_iinc (v := nI (i + 1)) dX8_layOut_190 rfl (nI_1 (i)) (by decide) ?_
                    refine wv_goto (tgt := 136) dX8_layOut_193 (by decide) ?_
                    have := iq (i + 1) (by omega)
                    rw [e] at this
                    exact wv_le (by simp [wr_leq, wr_s1, wr_s2, wr_wide, bI]) this
                  · rw [lg_cmp_eq, hu, bit1 u (by omega)] at h181
                    have e : (gd g (kn m tk) (q + 1) && decide ((cn (fun s => lb u s && gG g s) (i + 1)) = 0)) = true := by
                      rw [ec, h155b.1, h155b.2]
                      simp [h181]
                    refine wv_iconst (v := 1) dX8_layOut_184 (by decide) ?_
                    refine wv_goto (tgt := 189) dX8_layOut_185 (by decide) ?_
                    refine wv_istore_k (i := 2) dX8_layOut_189 rfl (by decide) ?_
                    refine wv_iinc (v := nI (i + 1)) dX8_layOut_190 rfl (nI_1 (i)) (by decide) ?_
                    refine wv_goto (tgt := 136) dX8_layOut_193 (by decide) ?_
                    have := iq (i + 1) (by omega)
                    rw [e] at this
                    exact wv_le (by simp [wr_leq, wr_s1, wr_s2, wr_wide, bI]) this
          have := lp (gN g) 0 (by omega)
          rw [show (gd g (kn m tk) (q + 1) && decide ((cn (fun s => lb u s && gG g s) 0) = 0)) = gd g (kn m tk) (q + 1) from by simp [cn]] at this
          exact this
      refine wv_iload_n dX8_layOut_108 rfl ?_
      refine wv_if_lt (tgt := 202) dX8_layOut_109 (by decide) (fun h109 => absurd h109 (nI_pos (by omega))) (fun h109 => ?_)
      refine wv_aload_n dX8_layOut_112 rfl ?_
      refine wv_aload_n dX8_layOut_113 rfl ?_
      refine wv_getR fX8_115 dX8_layOut_114 rfl (by first | assumption | rfl) (by first | exact hR _ _ _ rfl | assumption) ?_
      refine wv_iload_n dX8_layOut_117 rfl ?_
      refine wv_zaldN dX8_layOut_118 (by first | assumption | rfl) (by omega) (by decide) ?_
      refine wv_if_eq (tgt := 126) dX8_layOut_119 (by decide) (fun h119 => ?_) (fun h119 => ?_)
      · rw [hx, bI_0] at h119
        rw [h119, if_neg (by simp)] at hfs
        refine wv_aload_n dX8_layOut_126 rfl ?_
        refine wv_getI fX8_477 dX8_layOut_127 rfl (by first | assumption | rfl) ?_
        refine wv_putI fX8_477 dX8_layOut_130 rfl rfl rfl rfl (by first | assumption | rfl) ?_
        refine wv_iconst (v := nI 0) dX8_layOut_133 rfl ?_
        refine wv_istore dX8_layOut_134 (by decide) ?_
        refine wv_le (by simp [wr_leq, wr_s1, wr_s2, wr_wide]) (inn _ (fun x hx => by rw [wr_uI_ne (by omega)]; exact h1 x hx) ?_ ⟨fun a b1 b2 => by rw [wr_uI_ne b1]; exact hf.1 a b1 b2, fun k hk => by simp only [wr_uI, hk, and_false, if_false]; exact hf.2 k hk⟩)
        have e : ∀ v, wr_uI J 55 71 v 55 71 = v := fun v => by simp [wr_uI]
        rw [e, hfs]
        try exact h2
      · rw [hx, bI_0] at h119
        have h119b : (kn m tk q).isSome = true := by simpa only [Bool.not_eq_false] using h119
        rw [if_pos h119b] at hfs
        refine wv_iload_n dX8_layOut_122 rfl ?_
        refine wv_goto (tgt := 130) dX8_layOut_123 (by decide) ?_
        refine wv_putI fX8_477 dX8_layOut_130 rfl rfl rfl rfl (by first | assumption | rfl) ?_
        refine wv_iconst (v := nI 0) dX8_layOut_133 rfl ?_
        refine wv_istore dX8_layOut_134 (by decide) ?_
        refine wv_le (by simp [wr_leq, wr_s1, wr_s2, wr_wide]) (inn _ (fun x hx => by rw [wr_uI_ne (by omega)]; exact h1 x hx) ?_ ⟨fun a b1 b2 => by rw [wr_uI_ne b1]; exact hf.1 a b1 b2, fun k hk => by simp only [wr_uI, hk, and_false, if_false]; exact hf.2 k hk⟩)
        have e : ∀ v, wr_uI J 55 71 v 55 71 = v := fun v => by simp [wr_uI]
        rw [e, hfs]
        try exact h2
  -- the films
  have l2 : ∀ (k i : Nat) (J : wr_TI) (K : wr_TL), i + k = m.1 → (∀ x, x < 40 → J 88 x = bI (knG m tk i x).isSome) → (∀ x u, x < 40 → knG m tk i x = some u → K 87 x = u) → J 55 71 = -1 → frM (fun a => 88 ≤ a ∧ a ≤ 92) (fun k => k = 71) I J → (∀ b, b ≠ 87 → K b = L b) → wr_V l 0 mX8_layOut 30 [some (.ref 55), some (.int tk), some (.int 1), some (.int (nI i)), none] [] SH J K R 0 0 (fun v s' I' L' R' => v = some (.int (bI (gd g (kn m tk) 0))) ∧ s' = SH ∧ R' = R ∧ kM I' L' (kn m tk) ∧ frK8 I L I' L') := by
    intro k
    induction k with
    | zero =>
      intro i J K hi h1 h2 h3 hf hKf
      obtain rfl : i = m.1 := by omega
      refine wv_iload_n dX8_layOut_30 rfl ?_
      refine wv_aload_n dX8_layOut_31 rfl ?_
      refine wv_getI fX8_378 dX8_layOut_32 rfl (by first | assumption | rfl) ?_
      refine wv_icmp_ge (tgt := 105) dX8_layOut_35 (by decide) (fun h35 => ?_) (fun h35 => absurd (by rw [hf.2 69 (by omega), hM.1]; exact Int32.le_refl _) h35)
      refine wv_bipush (v := nI 40 - 1) dX8_layOut_105 rfl ?_
      refine wv_istore_k (i := 3) dX8_layOut_107 rfl (by decide) ?_
      have := l3 K h2 hKf 40 J (by omega) h1 (by rw [h3]; rfl) hf
      rw [gd_40] at this
      exact wv_le (by simp [wr_leq, wr_s1, wr_s2, wr_wide, bI]) this
    | succ k ih =>
      intro i J K hi h1 h2 h3 hf hKf
      have him : i < m.1 := by omega
      have h60 := hM.2.1
      obtain ⟨v1, v2, v3, v4, v5⟩ := hM.2.2 i him
      have w1 : J 83 i = nI (m.2.1 i) := by rw [hf.1 83 (by omega) (by omega)]; exact v1
      have w4 : J 84 i = m.2.2.2.1 i := by rw [hf.1 84 (by omega) (by omega)]; exact v4
      have w5 : J 85 i = m.2.2.2.2 i := by rw [hf.1 85 (by omega) (by omega)]; exact v5
      have w3 : K 86 i = m.2.2.1 i := by rw [hKf 86 (by omega)]; exact v3
      have hco := fmC_m hN him (k := tk)
      refine wv_iload_n dX8_layOut_30 rfl ?_
      refine wv_aload_n dX8_layOut_31 rfl ?_
      refine wv_getI fX8_378 dX8_layOut_32 rfl (by first | assumption | rfl) ?_
      refine wv_icmp_ge (tgt := 105) dX8_layOut_35 (by decide) (fun h35 => absurd h35 (by rw [hf.2 69 (by omega), hM.1]; exact nI_ge (by omega) (by omega))) (fun h35 => ?_)
      refine wv_aload_n dX8_layOut_38 rfl ?_
      refine wv_getR fX8_102 dX8_layOut_39 rfl (by first | assumption | rfl) (by first | exact hR _ _ _ rfl | assumption) ?_
      refine wv_iload_n dX8_layOut_42 rfl ?_
      refine wv_ialdN dX8_layOut_43 (by first | assumption | rfl) (by omega) (by decide) ?_
      refine wv_iload_n dX8_layOut_44 rfl ?_
      refine wv_icmp_gt (tgt := 99) dX8_layOut_45 (by decide) (fun h45 => ?_) (fun h45 => ?_)
      · rw [w4] at h45
        have hc : ¬ fmC m i tk = true := fun q => (hco.mp q) (Or.inl h45)
        refine wv_iinc (v := nI (i + 1)) dX8_layOut_99 rfl (nI_1 (i)) (by decide) ?_
        refine wv_goto (tgt := 30) dX8_layOut_102 (by decide) ?_
        first
          | (have e : ∀ x, knG m tk (i + 1) x = knG m tk i x := fun x => by simp only [knG]; rw [if_neg (fun q => hc q.1)]
             exact wv_le (by simp [wr_leq, wr_s1, wr_s2, wr_wide]) (ih (i + 1) J K (by omega) (fun x hx => by rw [e]; exact h1 x hx) (fun x u hx hu => h2 x u hx (by rw [← e]; exact hu)) h3 hf hKf))
          | (have e : ∀ x, knG m tk (i + 1) x = if m.2.1 i = x then some (m.2.2.1 i) else knG m tk i x := fun x => by
               simp only [knG]
               by_cases hx : m.2.1 i = x <;> simp [hx, hc]
             refine wv_le (by simp [wr_leq, wr_s1, wr_s2, wr_wide]) (ih (i + 1) _ _ (by omega) (fun x hx => ?_) (fun x u hx hu => ?_) ?_ ⟨fun a b1 b2 => ?_, fun k hk => ?_⟩ (fun b hb => ?_))
             · rw [e]
               have ev : vp_nar .boolean 1 = 1 := rfl
               by_cases hxm : m.2.1 i = x
               · subst hxm; simp [wr_uI, bI, ev]
               · have : ¬ x = m.2.1 i := fun z => hxm z.symm
                 simp [wr_uI, hxm, this, h1 x hx]
             · rw [e] at hu
               by_cases hxm : m.2.1 i = x
               · subst hxm; simp at hu; simp [wr_uL, hu]
               · have : ¬ x = m.2.1 i := fun z => hxm z.symm
                 rw [if_neg hxm] at hu
                 simp [wr_uL, this, h2 x u hx hu]
             · rw [wr_uI_ne (by omega)]; exact h3
             · rw [wr_uI_ne (by omega)]; exact hf.1 a b1 b2
             · rw [wr_uI_ne (by omega)]; exact hf.2 k hk
             · have : ∀ d, wr_uL K 87 (m.2.1 i) (m.2.2.1 i) b d = K b d := fun d => by simp [wr_uL, hb]
               funext d
               rw [this, hKf b hb])
      · rw [w4] at h45
        refine wv_aload_n dX8_layOut_48 rfl ?_
        refine wv_getR fX8_105 dX8_layOut_49 rfl (by first | assumption | rfl) (by first | exact hR _ _ _ rfl | assumption) ?_
        refine wv_iload_n dX8_layOut_52 rfl ?_
        refine wv_ialdN dX8_layOut_53 (by first | assumption | rfl) (by omega) (by decide) ?_
        refine wv_if_lt (tgt := 70) dX8_layOut_54 (by decide) (fun h54 => ?_) (fun h54 => ?_)
        · rw [w5] at h54
          have hc : fmC m i tk = true := hco.mpr (fun q => by rcases q with q | q; exact h45 q; exact absurd h54 (Int32.not_lt.mpr q.1))
          refine wv_aload_n dX8_layOut_70 rfl ?_
          refine wv_getR fX8_115 dX8_layOut_71 rfl (by first | assumption | rfl) (by first | exact hR _ _ _ rfl | assumption) ?_
          refine wv_aload_n dX8_layOut_74 rfl ?_
          refine wv_getR fX8_99 dX8_layOut_75 rfl (by first | assumption | rfl) (by first | exact hR _ _ _ rfl | assumption) ?_
          refine wv_iload_n dX8_layOut_78 rfl ?_
          refine wv_ialdN dX8_layOut_79 (by first | assumption | rfl) (by omega) (by decide) ?_
          rw [w1]
          refine wv_iconst (v := 1) dX8_layOut_80 (by decide) ?_
          refine wv_zastN dX8_layOut_81 (by first | assumption | rfl) v2 (by decide) ?_
          refine wv_aload_n dX8_layOut_82 rfl ?_
          refine wv_getR fX8_112 dX8_layOut_83 rfl (by first | assumption | rfl) (by first | exact hR _ _ _ rfl | assumption) ?_
          refine wv_aload_n dX8_layOut_86 rfl ?_
          refine wv_getR fX8_99 dX8_layOut_87 rfl (by first | assumption | rfl) (by first | exact hR _ _ _ rfl | assumption) ?_
          refine wv_iload_n dX8_layOut_90 rfl ?_
          refine wv_ialdN dX8_layOut_91 (by first | assumption | rfl) (by omega) (by decide) ?_
          rw [show ∀ x, wr_uI J 88 (m.2.1 i) x 83 i = J 83 i from fun x => by simp [wr_uI], w1]
          refine wv_aload_n dX8_layOut_92 rfl ?_
          refine wv_getR fX8_108 dX8_layOut_93 rfl (by first | assumption | rfl) (by first | exact hR _ _ _ rfl | assumption) ?_
          refine wv_iload_n dX8_layOut_96 rfl ?_
          refine wv_laldN dX8_layOut_97 (by first | assumption | rfl) (by omega) (by decide) ?_
          rw [w3]
          refine wv_lastN dX8_layOut_98 (by first | assumption | rfl) v2 (by decide) ?_
          refine wv_iinc (v := nI (i + 1)) dX8_layOut_99 rfl (nI_1 (i)) (by decide) ?_
          refine wv_goto (tgt := 30) dX8_layOut_102 (by decide) ?_
          first
            | (have e : ∀ x, knG m tk (i + 1) x = knG m tk i x := fun x => by simp only [knG]; rw [if_neg (fun q => hc q.1)]
               exact wv_le (by simp [wr_leq, wr_s1, wr_s2, wr_wide]) (ih (i + 1) J K (by omega) (fun x hx => by rw [e]; exact h1 x hx) (fun x u hx hu => h2 x u hx (by rw [← e]; exact hu)) h3 hf hKf))
            | (have e : ∀ x, knG m tk (i + 1) x = if m.2.1 i = x then some (m.2.2.1 i) else knG m tk i x := fun x => by
                 simp only [knG]
                 by_cases hx : m.2.1 i = x <;> simp [hx, hc]
               refine wv_le (by simp [wr_leq, wr_s1, wr_s2, wr_wide]) (ih (i + 1) _ _ (by omega) (fun x hx => ?_) (fun x u hx hu => ?_) ?_ ⟨fun a b1 b2 => ?_, fun k hk => ?_⟩ (fun b hb => ?_))
               · rw [e]
                 have ev : vp_nar .boolean 1 = 1 := rfl
                 by_cases hxm : m.2.1 i = x
                 · subst hxm; simp [wr_uI, bI, ev]
                 · have : ¬ x = m.2.1 i := fun z => hxm z.symm
                   simp [wr_uI, hxm, this, h1 x hx]
               · rw [e] at hu
                 by_cases hxm : m.2.1 i = x
                 · subst hxm; simp at hu; simp [wr_uL, hu]
                 · have : ¬ x = m.2.1 i := fun z => hxm z.symm
                   rw [if_neg hxm] at hu
                   simp [wr_uL, this, h2 x u hx hu]
               · rw [wr_uI_ne (by omega)]; exact h3
               · rw [wr_uI_ne (by omega)]; exact hf.1 a b1 b2
               · rw [wr_uI_ne (by omega)]; exact hf.2 k hk
               · have : ∀ d, wr_uL K 87 (m.2.1 i) (m.2.2.1 i) b d = K b d := fun d => by simp [wr_uL, hb]
                 funext d
                 rw [this, hKf b hb])
        · rw [w5] at h54
          refine wv_aload_n dX8_layOut_57 rfl ?_
          refine wv_getR fX8_105 dX8_layOut_58 rfl (by first | assumption | rfl) (by first | exact hR _ _ _ rfl | assumption) ?_
          refine wv_iload_n dX8_layOut_61 rfl ?_
          refine wv_ialdN dX8_layOut_62 (by first | assumption | rfl) (by omega) (by decide) ?_
          refine wv_iload_n dX8_layOut_63 rfl ?_
          refine wv_icmp_gt (tgt := 70) dX8_layOut_64 (by decide) (fun h64 => ?_) (fun h64 => ?_)
          · rw [w5] at h64
            have hc : fmC m i tk = true := hco.mpr (fun q => by rcases q with q | q; exact h45 q; exact absurd h64 (Int32.not_lt.mpr q.2))
            refine wv_aload_n dX8_layOut_70 rfl ?_
            refine wv_getR fX8_115 dX8_layOut_71 rfl (by first | assumption | rfl) (by first | exact hR _ _ _ rfl | assumption) ?_
            refine wv_aload_n dX8_layOut_74 rfl ?_
            refine wv_getR fX8_99 dX8_layOut_75 rfl (by first | assumption | rfl) (by first | exact hR _ _ _ rfl | assumption) ?_
            refine wv_iload_n dX8_layOut_78 rfl ?_
            refine wv_ialdN dX8_layOut_79 (by first | assumption | rfl) (by omega) (by decide) ?_
            rw [w1]
            refine wv_iconst (v := 1) dX8_layOut_80 (by decide) ?_
            refine wv_zastN dX8_layOut_81 (by first | assumption | rfl) v2 (by decide) ?_
            refine wv_aload_n dX8_layOut_82 rfl ?_
            refine wv_getR fX8_112 dX8_layOut_83 rfl (by first | assumption | rfl) (by first | exact hR _ _ _ rfl | assumption) ?_
            refine wv_aload_n dX8_layOut_86 rfl ?_
            refine wv_getR fX8_99 dX8_layOut_87 rfl (by first | assumption | rfl) (by first | exact hR _ _ _ rfl | assumption) ?_
            refine wv_iload_n dX8_layOut_90 rfl ?_
            refine wv_ialdN dX8_layOut_91 (by first | assumption | rfl) (by omega) (by decide) ?_
            rw [show ∀ x, wr_uI J 88 (m.2.1 i) x 83 i = J 83 i from fun x => by simp [wr_uI], w1]
            refine wv_aload_n dX8_layOut_92 rfl ?_
            refine wv_getR fX8_108 dX8_layOut_93 rfl (by first | assumption | rfl) (by first | exact hR _ _ _ rfl | assumption) ?_
            refine wv_iload_n dX8_layOut_96 rfl ?_
            refine wv_laldN dX8_layOut_97 (by first | assumption | rfl) (by omega) (by decide) ?_
            rw [w3]
            refine wv_lastN dX8_layOut_98 (by first | assumption | rfl) v2 (by decide) ?_
            refine wv_iinc (v := nI (i + 1)) dX8_layOut_99 rfl (nI_1 (i)) (by decide) ?_
            refine wv_goto (tgt := 30) dX8_layOut_102 (by decide) ?_
            first
              | (have e : ∀ x, knG m tk (i + 1) x = knG m tk i x := fun x => by simp only [knG]; rw [if_neg (fun q => hc q.1)]
                 exact wv_le (by simp [wr_leq, wr_s1, wr_s2, wr_wide]) (ih (i + 1) J K (by omega) (fun x hx => by rw [e]; exact h1 x hx) (fun x u hx hu => h2 x u hx (by rw [← e]; exact hu)) h3 hf hKf))
              | (have e : ∀ x, knG m tk (i + 1) x = if m.2.1 i = x then some (m.2.2.1 i) else knG m tk i x := fun x => by
                   simp only [knG]
                   by_cases hx : m.2.1 i = x <;> simp [hx, hc]
                 refine wv_le (by simp [wr_leq, wr_s1, wr_s2, wr_wide]) (ih (i + 1) _ _ (by omega) (fun x hx => ?_) (fun x u hx hu => ?_) ?_ ⟨fun a b1 b2 => ?_, fun k hk => ?_⟩ (fun b hb => ?_))
                 · rw [e]
                   have ev : vp_nar .boolean 1 = 1 := rfl
                   by_cases hxm : m.2.1 i = x
                   · subst hxm; simp [wr_uI, bI, ev]
                   · have : ¬ x = m.2.1 i := fun z => hxm z.symm
                     simp [wr_uI, hxm, this, h1 x hx]
                 · rw [e] at hu
                   by_cases hxm : m.2.1 i = x
                   · subst hxm; simp at hu; simp [wr_uL, hu]
                   · have : ¬ x = m.2.1 i := fun z => hxm z.symm
                     rw [if_neg hxm] at hu
                     simp [wr_uL, this, h2 x u hx hu]
                 · rw [wr_uI_ne (by omega)]; exact h3
                 · rw [wr_uI_ne (by omega)]; exact hf.1 a b1 b2
                 · rw [wr_uI_ne (by omega)]; exact hf.2 k hk
                 · have : ∀ d, wr_uL K 87 (m.2.1 i) (m.2.2.1 i) b d = K b d := fun d => by simp [wr_uL, hb]
                   funext d
                   rw [this, hKf b hb])
          · rw [w5] at h64
            have hc : ¬ fmC m i tk = true := fun q => (hco.mp q) (Or.inr ⟨Int32.not_lt.mp h54, Int32.not_lt.mp h64⟩)
            refine wv_goto (tgt := 99) dX8_layOut_67 (by decide) ?_
            refine wv_iinc (v := nI (i + 1)) dX8_layOut_99 rfl (nI_1 (i)) (by decide) ?_
            refine wv_goto (tgt := 30) dX8_layOut_102 (by decide) ?_
            first
              | (have e : ∀ x, knG m tk (i + 1) x = knG m tk i x := fun x => by simp only [knG]; rw [if_neg (fun q => hc q.1)]
                 exact wv_le (by simp [wr_leq, wr_s1, wr_s2, wr_wide]) (ih (i + 1) J K (by omega) (fun x hx => by rw [e]; exact h1 x hx) (fun x u hx hu => h2 x u hx (by rw [← e]; exact hu)) h3 hf hKf))
              | (have e : ∀ x, knG m tk (i + 1) x = if m.2.1 i = x then some (m.2.2.1 i) else knG m tk i x := fun x => by
                   simp only [knG]
                   by_cases hx : m.2.1 i = x <;> simp [hx, hc]
                 refine wv_le (by simp [wr_leq, wr_s1, wr_s2, wr_wide]) (ih (i + 1) _ _ (by omega) (fun x hx => ?_) (fun x u hx hu => ?_) ?_ ⟨fun a b1 b2 => ?_, fun k hk => ?_⟩ (fun b hb => ?_))
                 · rw [e]
                   have ev : vp_nar .boolean 1 = 1 := rfl
                   by_cases hxm : m.2.1 i = x
                   · subst hxm; simp [wr_uI, bI, ev]
                   · have : ¬ x = m.2.1 i := fun z => hxm z.symm
                     simp [wr_uI, hxm, this, h1 x hx]
                 · rw [e] at hu
                   by_cases hxm : m.2.1 i = x
                   · subst hxm; simp at hu; simp [wr_uL, hu]
                   · have : ¬ x = m.2.1 i := fun z => hxm z.symm
                     rw [if_neg hxm] at hu
                     simp [wr_uL, this, h2 x u hx hu]
                 · rw [wr_uI_ne (by omega)]; exact h3
                 · rw [wr_uI_ne (by omega)]; exact hf.1 a b1 b2
                 · rw [wr_uI_ne (by omega)]; exact hf.2 k hk
                 · have : ∀ d, wr_uL K 87 (m.2.1 i) (m.2.2.1 i) b d = K b d := fun d => by simp [wr_uL, hb]
                   funext d
                   rw [this, hKf b hb])
  have l1 : ∀ (k i : Nat) (J : wr_TI), i + k = 40 → (∀ x, x < i → J 88 x = 0) → J 55 71 = -1 → frM (fun a => 88 ≤ a ∧ a ≤ 92) (fun k => k = 71) I J → wr_V l 0 mX8_layOut 9 [some (.ref 55), some (.int tk), some (.int 1), some (.int (nI i)), none] [] SH J L R 0 0 (fun v s' I' L' R' => v = some (.int (bI (gd g (kn m tk) 0))) ∧ s' = SH ∧ R' = R ∧ kM I' L' (kn m tk) ∧ frK8 I L I' L') := by
    intro k
    induction k with
    | zero =>
      intro i J hi h1 h3 hf
      obtain rfl : i = 40 := by omega
      refine wv_iload_n dX8_layOut_9 rfl ?_
      refine wv_bipush (v := 40) dX8_layOut_10 (by decide) ?_
      refine wv_icmp_ge (tgt := 28) dX8_layOut_12 (by decide) (fun h12 => ?_) (fun h12 => absurd (nI_le (a := 40) (by omega) (by omega)) h12)
      refine wv_iconst (v := nI 0) dX8_layOut_28 rfl ?_
      refine wv_istore_k (i := 3) dX8_layOut_29 rfl (by decide) ?_
      exact wv_le (by simp [wr_leq, wr_s1, wr_s2, wr_wide]) (l2 m.1 0 J L (by omega) (fun x hx => by rw [h1 x hx]; simp [knG, bI]) (fun x u hx hu => by simp [knG] at hu) h3 hf (fun _ _ => rfl))
    | succ k ih =>
      intro i J hi h1 h3 hf
      refine wv_iload_n dX8_layOut_9 rfl ?_
      refine wv_bipush (v := 40) dX8_layOut_10 (by decide) ?_
      refine wv_icmp_ge (tgt := 28) dX8_layOut_12 (by decide) (fun h12 => absurd h12 (nI_ge (b := 40) (by omega) (by omega))) (fun h12 => ?_)
      refine wv_aload_n dX8_layOut_15 rfl ?_
      refine wv_getR fX8_115 dX8_layOut_16 rfl (by first | assumption | rfl) (by first | exact hR _ _ _ rfl | assumption) ?_
      refine wv_iload_n dX8_layOut_19 rfl ?_
      refine wv_iconst (v := 0) dX8_layOut_20 (by decide) ?_
      refine wv_zastN dX8_layOut_21 (by first | assumption | rfl) (by omega) (by decide) ?_
      refine wv_iinc (v := nI (i + 1)) dX8_layOut_22 rfl (nI_1 (i)) (by decide) ?_
      refine wv_goto (tgt := 9) dX8_layOut_25 (by decide) ?_
      refine wv_le (by simp [wr_leq, wr_s1, wr_s2, wr_wide]) (ih (i + 1) _ (by omega) (fun x hx => ?_) ?_ ⟨fun a b1 b2 => ?_, fun k hk => ?_⟩)
      · have ev : vp_nar .boolean 0 = 0 := rfl
        by_cases hxi : x = i
        · subst hxi; simp [wr_uI, ev]
        · simp only [wr_uI, hxi, and_false, if_false]; exact h1 x (by omega)
      · rw [wr_uI_ne (by omega)]; exact h3
      · rw [wr_uI_ne (by omega)]; exact hf.1 a b1 b2
      · rw [wr_uI_ne (by omega)]; exact hf.2 k hk
  refine wv_pad 3 ?_
  show wr_V l 0 mX8_layOut 0 [some (.ref 55), some (.int tk), none, none, none] [] SH I L R 0 0 _
  refine wv_iconst (v := 1) dX8_layOut_0 (by decide) ?_
  refine wv_istore_k (i := 2) dX8_layOut_1 rfl (by decide) ?_
  refine wv_aload_n dX8_layOut_2 rfl ?_
  refine wv_iconst (v := (-1)) dX8_layOut_3 (by decide) ?_
  refine wv_putI fX8_477 dX8_layOut_4 rfl rfl rfl rfl (by first | assumption | rfl) ?_
  refine wv_iconst (v := nI 0) dX8_layOut_7 rfl ?_
  refine wv_istore_k (i := 3) dX8_layOut_8 rfl (by decide) ?_
  exact wv_le (by simp [wr_leq, wr_s1, wr_s2, wr_wide]) (l1 40 0 _ (by omega) (fun x hx => by omega) (by simp [wr_uI]) ⟨fun a b1 b2 => wr_uI_ne b1, fun k hk => by simp [wr_uI, hk]⟩)

