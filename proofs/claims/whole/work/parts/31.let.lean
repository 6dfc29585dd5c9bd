/-! a plain law against what is known -/
def uL (n : Nat) (ps : Nat → Int32) : Int64 := orb 0 (fun s => isU (ps s)) n
theorem isU_pv {u r : Nat} (hu : u ≤ 3) (hr : r ≤ 3) {v : Int32} {gp : Bool} (k1 : gp = true → v = 40) (k2 : gp = false → v = 0 ∨ (1 ≤ v ∧ v ≤ nI u) ∨ (11 ≤ v ∧ v ≤ nI (10 + r))) : isU v = (decide (v = 1) || decide (v = 2) || decide (v = 3)) := by
  cases hg : gp with
  | true => rw [k1 hg]; decide
  | false =>
    obtain ⟨k, hk, rfl, hkv⟩ := pv_of hu hr (k2 hg)
    have : ∀ k : Fin 14, (k.val = 0 ∨ (1 ≤ k.val ∧ k.val ≤ 3) ∨ (11 ≤ k.val ∧ k.val ≤ 13)) → isU (nI k.val) = (decide (nI k.val = 1) || decide (nI k.val = 2) || decide (nI k.val = 3)) := by decide +kernel
    exact this ⟨k, hk⟩ (by simp only; omega)
theorem pl_up {L : wr_TL} {q u r : Nat} {g : RG} {ps : Nat → Int32} (hn : gN g ≤ 40) (hu : u ≤ 3) (hr : r ≤ 3) (hB : plB L q (gN g) ps) (hp : pvl g u r ps) : L q 7 ||| L q 8 ||| L q 9 = uL (gN g) ps := by
  apply lb_ext
  intro s hs
  obtain ⟨b1, b2, b3, -⟩ := hB s hs
  unfold uL
  rw [lb_or, lb_or, b1, b2, b3, lb_orb _ _ _ (by omega) s hs, lb_0]
  by_cases hsn : s < gN g
  · rw [isU_pv hu hr (hp s hsn).1 (hp s hsn).2]
    simp [hsn]
  · simp [hsn]
theorem pl_begin {L : wr_TL} {q u r : Nat} {g : RG} {x : Int64} {f : Nat → Bool} (hu : 1 ≤ u) (hu3 : u ≤ 3) (hx : ∀ s, s < 64 → lb x s = (decide (s < gN g) && (!gG g s && f s))) : plB (fun a b => if a = q ∧ b = 7 then x else if a = q ∧ 8 ≤ b ∧ b ≤ 12 then 0 else L a b) q (gN g) (ps0 g f) ∧ pvl g u r (ps0 g f) := by
  refine ⟨fun s hs => ?_, fun s _ => ⟨fun h => by simp [ps0, h], fun h => ?_⟩⟩
  · have z : ∀ v : Int32, v ≠ 1 → v ≠ 0 → v ≠ 40 → decide (ps0 g f s = v) = false := by
      intro v h1 h0 h40
      unfold ps0
      split
      · simpa using Ne.symm h40
      · split
        · simpa using Ne.symm h1
        · simpa using Ne.symm h0
    simp only [true_and, if_true, Nat.le_refl, and_self, show ¬ (8 : Nat) = 7 by omega, show ¬ (9 : Nat) = 7 by omega, show ¬ (10 : Nat) = 7 by omega, show ¬ (11 : Nat) = 7 by omega, show ¬ (12 : Nat) = 7 by omega, if_false, Nat.reduceLeDiff, lb_0]
    rw [z 2 (by decide) (by decide) (by decide), z 3 (by decide) (by decide) (by decide), z 11 (by decide) (by decide) (by decide), z 12 (by decide) (by decide) (by decide), z 13 (by decide) (by decide) (by decide)]
    refine ⟨?_, by simp, by simp, by simp, by simp, by simp⟩
    rw [hx s hs]
    congr 1
    unfold ps0
    cases gG g s <;> cases f s <;> simp
  · unfold ps0
    rw [if_neg (by rw [h]; decide)]
    split
    · exact Or.inr (Or.inl ⟨by decide, nI_le (a := 1) hu (by omega)⟩)
    · exact Or.inl rfl
def kV (I : wr_TI) (L : wr_TL) (g : RG) (kx : Nat → Option Int64) : Prop := (∀ x, x < 40 → I 35 x = if (kx x).isSome = true then 1 else 0) ∧ (∀ x u, x < 40 → kx x = some u → L 36 x = u ∧ ∀ s, gN g ≤ s → lb u s = false) ∧ I 30 8 = oI (fst (fun x => (kx x).isSome) 40) ∧ I 30 9 = oI (lst (fun x => (kx x).isSome) 40)
theorem kV_fr {I I' : wr_TI} {L L' : wr_TL} {g : RG} {kx : Nat → Option Int64} (h : kV I L g kx) (h0 : I' 30 = I 30) (h5 : I' 35 = I 35) (hL : L' 36 = L 36) : kV I' L' g kx := by
  unfold kV at *
  rw [h0, h5, hL]
  exact h
def flG (g : RG) (a : Nat) (kx : Nat → Option Int64) : Nat → Nat → (Nat → Int32) → Bool
  | 0, _, _ => true
  | k + 1, m, ps => (match kx m with | some u => decide (uL (gN g) (pst g a ps) = u) | none => true) && flG g a kx k (m + 1) (pst g a ps)
def fitS (g : RG) (a : Nat) (kx : Nat → Option Int64) : Bool := match fst (fun x => (kx x).isSome) 40 with
  | none => true
  | some f => match kx f with
    | none => true
    | some u => decide (cn (fun s => lb u s && gG g s) (gN g) = 0) && flG g a kx (39 - f) (f + 1) (ps0 g (lb u))
theorem flG_cut {g : RG} {a : Nat} {kx : Nat → Option Int64} : ∀ (r j m : Nat) (ps : Nat → Int32), (∀ x, m + r ≤ x → x < m + r + j → kx x = none) → flG g a kx (r + j) m ps = flG g a kx r m ps := by
  intro r
  induction r with
  | zero =>
    intro j
    induction j with
    | zero => intro m ps _; rfl
    | succ j ih =>
      intro m ps h
      have h0 := h m (by omega) (by omega)
      show flG g a kx (0 + j + 1) m ps = true
      simp only [flG]
      rw [h0]
      have := ih (m + 1) (pst g a ps) (fun x h1 h2 => h x (by omega) (by omega))
      rw [Nat.zero_add] at this
      have this2 : flG g a kx j (m + 1) (pst g a ps) = true := this
      simpa using this2
  | succ r ih =>
    intro j m ps h
    rw [show r + 1 + j = (r + j) + 1 by omega]
    simp only [flG]
    rw [ih j (m + 1) _ (fun x h1 h2 => h x (by omega) (by omega))]
theorem fst_some {p : Nat → Bool} : ∀ {n x : Nat}, fst p n = some x → p x = true ∧ ∀ y, y < x → p y = false := by
  intro n
  induction n with
  | zero => intro x h; simp [fst] at h
  | succ n ih =>
    intro x h
    simp only [fst] at h
    cases hf : fst p n with
    | some y => rw [hf] at h; simp at h; subst h; exact ih hf
    | none =>
      have hno : ∀ m, m ≤ n → fst p m = none → ∀ y, y < m → p y = false := by
        intro m
        induction m with
        | zero => intro _ _ y hy; omega
        | succ m im =>
          intro hm he y hy
          simp only [fst] at he
          cases hm2 : fst p m with
          | some z => rw [hm2] at he; simp at he
          | none =>
            rw [hm2] at he
            by_cases hp : p m = true
            · simp [hp] at he
            · rcases Nat.lt_succ_iff_lt_or_eq.mp hy with h1 | h1
              · exact im (by omega) hm2 y h1
              · subst h1; simpa using hp
      rw [hf] at h
      by_cases hp : p n = true
      · simp [hp] at h
        subst h
        exact ⟨hp, hno n (Nat.le_refl _) hf⟩
      · simp [hp] at h
theorem lst_some {p : Nat → Bool} : ∀ {n x : Nat}, lst p n = some x → p x = true ∧ ∀ y, x < y → y < n → p y = false := by
  intro n
  induction n with
  | zero => intro x h; simp [lst] at h
  | succ n ih =>
    intro x h
    simp only [lst] at h
    by_cases hp : p n = true
    · simp [hp] at h
      subst h
      exact ⟨hp, fun y h1 h2 => by omega⟩
    · simp [hp] at h
      obtain ⟨h1, h2⟩ := ih h
      refine ⟨h1, fun y h3 h4 => ?_⟩
      rcases Nat.lt_succ_iff_lt_or_eq.mp h4 with h5 | h5
      · exact h2 y h3 h5
      · subst h5; simpa using hp
theorem lst_none {p : Nat → Bool} : ∀ {n : Nat}, lst p n = none → ∀ y, y < n → p y = false := by
  intro n
  induction n with
  | zero => intro _ y hy; omega
  | succ n ih =>
    intro h y hy
    simp only [lst] at h
    by_cases hp : p n = true
    · simp [hp] at h
    · simp [hp] at h
      rcases Nat.lt_succ_iff_lt_or_eq.mp hy with h1 | h1
      · exact ih h y h1
      · subst h1; simpa using hp
set_option maxHeartbeats 4000000 in
set_option maxRecDepth 100000 in
theorem cP_goS {l : Launch} {I : wr_TI} {L : wr_TL} {R : wr_TR} (q t a : Nat) (g : RG) (ps : Nat → Int32) (hq : SH[q]? = some (.inr 3)) (ht : SH[t]? = some (.inr 5)) (hqt : t ≠ q) (hV : rgV I L t g) (hT : plT I R q t a g) (ha : a < 324) (hB : plB L q (gN g) ps) (hp : pvl g (a / 4 % 3 + 1) (a % 4) ps) : wr_P l 3 mX3_goOn [.ref q] SH I L R (fun v s' I' L' R' => v = none ∧ s' = SH ∧ I' = I ∧ R' = R ∧ plB L' q (gN g) (pst g a ps) ∧ pvl g (a / 4 % 3 + 1) (a % 4) (pst g a ps) ∧ ∀ b, b ≠ q → L' b = L b) := by
  refine wr_V.imp (cP_go q t a g hq ht hqt hV hT ha (fun s hs => ?_)) (fun v s' I' L' R' h => ?_)
  · by_cases h64 : s < 64
    · rw [(hB s h64).1]; have : ¬ s < gN g := by omega
      simp [this]
    · exact lb_big (by omega)
  · obtain ⟨h1, h2, h3, h4, x, hx, rfl⟩ := h
    obtain ⟨k1, k2⟩ := pl_step hV ha hB hp hx
    exact ⟨h1, h2, h3, h4, k1, k2, fun b hb => by funext d; simp [goL, hb]⟩
set_option maxHeartbeats 4000000 in
set_option maxRecDepth 100000 in
theorem cF_let {l : Launch} {I : wr_TI} {L : wr_TL} {R : wr_TR} (hR : wr_RC R) (q t a : Nat) (g : RG) (kx : Nat → Option Int64) (hq : SH[q]? = some (.inr 3)) (hqv : q = 37 ∨ q = 38) (ht : t = 3 ∨ t = 10) (hV : rgV I L t g) (hT : plT I R q t a g) (ha : a < 324) (hk : kV I L g kx) : wr_P l 4 mX1_let [.ref 30, .ref q] SH I L R (fun v s' I' L' R' => v = some (.int (if fitS g a kx = true then 1 else 0)) ∧ s' = SH ∧ I' = I ∧ R' = R ∧ ∀ b, b ≠ q → L' b = L b) := by
  have hg := isG_of hR ht
  obtain ⟨-, g0, -⟩ := id hg
  have hn6 := hV.2.1
  have hn40 := hV.2.2.1
  obtain ⟨kv1, kv2, kv3, kv4⟩ := id hk
  have hqt : t ≠ q := by omega
  have hr0 := hT.1
  have lp : ∀ (lx : Nat), lx < 40 → lst (fun x => (kx x).isSome) 40 = some lx → ∀ (k i : Nat) (ps : Nat → Int32) (K : wr_TL), i + k = lx + 1 → (∀ b, b ≠ q → K b = L b) → plB K q (gN g) ps → pvl g (a / 4 % 3 + 1) (a % 4) ps → wr_V l 4 mX1_let 62 [some (.ref 30), some (.ref q), some (.int (nI i))] [] SH I K R 0 0 (fun v s' I' L' R' => v = some (.int (if flG g a kx k i ps = true then 1 else 0)) ∧ s' = SH ∧ I' = I ∧ R' = R ∧ ∀ b, b ≠ q → L' b = L b) := by
    intro lx hlx hl k
    rw [hl] at kv4
    have hl9 : I 30 9 = nI lx := kv4
    induction k with
    | zero =>
      intro i ps K hi hf hB hp
      refine wv_iload_n dX1_let_62 rfl ?_
      refine wv_aload_n dX1_let_63 rfl ?_
      refine wv_getI fX1_36 dX1_let_64 rfl (by first | assumption | rfl) ?_
      refine wv_icmp_gt (tgt := 111) dX1_let_67 (by decide) (fun h67 => ?_) (fun h67 => absurd (by rw [hl9]; exact nI_lt (by omega) (by omega)) h67)
      refine wv_iconst (v := 1) dX1_let_111 (by decide) ?_
      refine wv_zret rfl rfl dX1_let_112 ?_
      exact ⟨rfl, rfl, rfl, rfl, hf⟩
    | succ k ih =>
      intro i ps K hi hf hB hp
      have hVK : rgV I K t g := rgV_fr hV (fun _ _ _ _ => rfl) (hf t hqt)
      have hkw := kv1 i (by omega)
      refine wv_iload_n dX1_let_62 rfl ?_
      refine wv_aload_n dX1_let_63 rfl ?_
      refine wv_getI fX1_36 dX1_let_64 rfl (by first | assumption | rfl) ?_
      refine wv_icmp_gt (tgt := 111) dX1_let_67 (by decide) (fun h67 => absurd h67 (by rw [hl9]; exact nI_nlt (by omega) (by omega))) (fun h67 => ?_)
      refine wv_iload_n dX1_let_70 rfl ?_
      refine wv_bipush (v := 40) dX1_let_71 (by decide) ?_
      refine wv_icmp_ge (tgt := 111) dX1_let_73 (by decide) (fun h73 => absurd h73 (nI_ge (b := 40) (by omega) (by omega))) (fun h73 => ?_)
      refine wv_aload_n dX1_let_76 rfl ?_
      refine wv_v0 oX3_goOn kX1_65 dX1_let_77 (by omega) (by first | assumption | rfl) ⟨rfl, by decide⟩ (Nat.le_of_ble_eq_true rfl) (Nat.le_of_ble_eq_true rfl) (cP_goS q t a g ps hq g0 hqt hVK hT ha hB hp) (fun v9 s9 J9 L9 R9 h9 => ?_)
      obtain ⟨rfl, rfl, rfl, rfl, hB9, hp9, hf9⟩ := h9
      refine wv_aload_n dX1_let_80 rfl ?_
      refine wv_getR fX1_25 dX1_let_81 rfl (by first | assumption | rfl) (by first | exact hR _ _ _ rfl | assumption) ?_
      refine wv_iload_n dX1_let_84 rfl ?_
      refine wv_zaldN dX1_let_85 (by first | assumption | rfl) (by omega) (by decide) ?_
      refine wv_if_eq (tgt := 105) dX1_let_86 (by decide) (fun h86 => ?_) (fun h86 => ?_)
      · rw [hkw, if10] at h86
        have hx : kx i = none := by cases hz : kx i <;> simp_all
        have hno := hx
        refine wv_iinc (v := nI (i + 1)) dX1_let_105 rfl (nI_1 (i)) (by decide) ?_
        refine wv_goto (tgt := 62) dX1_let_108 (by decide) ?_
        first
        | (have _ := hno
           have e : flG g a kx (k + 1) i ps = flG g a kx k (i + 1) (pst g a ps) := by simp [flG, hx]
           rw [e]
           exact wv_le (by simp [wr_leq, wr_s1, wr_s2, wr_wide]) (ih (i + 1) _ L9 (by omega) (fun b hb => (hf9 b hb).trans (hf b hb)) hB9 hp9))
        | (have e : flG g a kx (k + 1) i ps = flG g a kx k (i + 1) (pst g a ps) := by simp [flG, hu, hyes]
           rw [e]
           exact wv_le (by simp [wr_leq, wr_s1, wr_s2, wr_wide]) (ih (i + 1) _ L9 (by omega) (fun b hb => (hf9 b hb).trans (hf b hb)) hB9 hp9))
      · rw [hkw, if10] at h86
        obtain ⟨u, hu⟩ : ∃ u, kx i = some u := by
          cases hz : kx i with
          | none => simp [hz] at h86
          | some u => exact ⟨u, rfl⟩
        have hsh : L9 36 i = u := by rw [hf9 36 (by omega), hf 36 (by omega)]; exact (kv2 i u (by omega) hu).1
        have hup := pl_up hn40 (by omega) (by omega) hB9 hp9
        refine wv_aload_n dX1_let_89 rfl ?_
        refine wv_v0e oX3_allUp kX1_68 dX1_let_90 (by omega) (by first | assumption | rfl) ⟨rfl, by decide⟩ (Nat.le_of_ble_eq_true rfl) (Nat.le_of_ble_eq_true rfl) (cP_allUp q hq) ?_
        refine wv_aload_n dX1_let_93 rfl ?_
        refine wv_getR fX1_29 dX1_let_94 rfl (by first | assumption | rfl) (by first | exact hR _ _ _ rfl | assumption) ?_
        refine wv_iload_n dX1_let_97 rfl ?_
        refine wv_laldN dX1_let_98 (by first | assumption | rfl) (by omega) (by decide) ?_
        refine wv_lcmp dX1_let_99 ?_
        refine wv_if_eq (tgt := 105) dX1_let_100 (by decide) (fun h100 => ?_) (fun h100 => ?_)
        · rw [lg_cmp_eq, hup, hsh] at h100
          have hyes := h100
          refine wv_iinc (v := nI (i + 1)) dX1_let_105 rfl (nI_1 (i)) (by decide) ?_
          refine wv_goto (tgt := 62) dX1_let_108 (by decide) ?_
          first
          | (have _ := hno
             have e : flG g a kx (k + 1) i ps = flG g a kx k (i + 1) (pst g a ps) := by simp [flG, hx]
             rw [e]
             exact wv_le (by simp [wr_leq, wr_s1, wr_s2, wr_wide]) (ih (i + 1) _ L9 (by omega) (fun b hb => (hf9 b hb).trans (hf b hb)) hB9 hp9))
          | (have e : flG g a kx (k + 1) i ps = flG g a kx k (i + 1) (pst g a ps) := by simp [flG, hu, hyes]
             rw [e]
             exact wv_le (by simp [wr_leq, wr_s1, wr_s2, wr_wide]) (ih (i + 1) _ L9 (by omega) (fun b hb => (hf9 b hb).trans (hf b hb)) hB9 hp9))
        · rw [lg_cmp_eq, hup, hsh] at h100
          refine wv_iconst (v := 0) dX1_let_103 (by decide) ?_
          refine wv_zret rfl rfl dX1_let_104 ?_
          refine ⟨?_, rfl, rfl, rfl, fun b hb => (hf9 b hb).trans (hf b hb)⟩
          simp [flG, hu, h100]
  cases hff : fst (fun x => (kx x).isSome) 40 with
  | none =>
    have h8 : I 30 8 = -1 := by rw [kv3, hff]; rfl
    have hS : fitS g a kx = true := by unfold fitS; rw [hff]
    rw [hS]
    refine wv_pad 1 ?_
    show wr_V l 4 mX1_let 0 [some (.ref 30), some (.ref q), none] [] SH I L R 0 0 _
    refine wv_aload_n dX1_let_0 rfl ?_
    refine wv_getI fX1_32 dX1_let_1 rfl (by first | assumption | rfl) ?_
    refine wv_if_lt (tgt := 16) dX1_let_4 (by decide) (fun h4 => ?_) (fun h4 => absurd (by rw [h8]; decide) h4)
    refine wv_iconst (v := 1) dX1_let_16 (by decide) ?_
    refine wv_zret rfl rfl dX1_let_17 ?_
    exact ⟨rfl, rfl, rfl, rfl, fun _ _ => rfl⟩
  | some f =>
    have hf40 : f < 40 := fst_lt hff
    have h8 : I 30 8 = nI f := by rw [kv3, hff]; rfl
    obtain ⟨u, hu⟩ : ∃ u, kx f = some u := by
      have := (fst_some hff).1
      cases hz : kx f with
      | none => simp [hz] at this
      | some u => exact ⟨u, rfl⟩
    obtain ⟨hsh, hub⟩ := kv2 f u hf40 hu
    have hS : fitS g a kx = (decide (cn (fun s => lb u s && gG g s) (gN g) = 0) && flG g a kx (39 - f) (f + 1) (ps0 g (lb u))) := by unfold fitS; rw [hff]; simp only [hu]
    have hga : (u &&& L t 6 = 0) ↔ cn (fun s => lb u s && gG g s) (gN g) = 0 := by
      refine lb_0iff hn40 (fun s hs => ?_)
      rw [lb_and, hV.2.2.2.1]
      by_cases hsn : s < gN g
      · simp [hsn]
      · simp [hsn, hub s (by omega)]
    obtain ⟨lx, hlx⟩ : ∃ lx, lst (fun x => (kx x).isSome) 40 = some lx := by
      cases hz : lst (fun x => (kx x).isSome) 40 with
      | none => have := lst_none hz f hf40; rw [(fst_some hff).1] at this; simp at this
      | some lx => exact ⟨lx, rfl⟩
    have hlx40 := lst_lt hlx
    have hfl : f ≤ lx := by
      rcases Nat.lt_or_ge lx f with h | h
      · have := (lst_some hlx).2 f h hf40; rw [(fst_some hff).1] at this; simp at this
      · exact h
    refine wv_pad 1 ?_
    show wr_V l 4 mX1_let 0 [some (.ref 30), some (.ref q), none] [] SH I L R 0 0 _
    refine wv_aload_n dX1_let_0 rfl ?_
    refine wv_getI fX1_32 dX1_let_1 rfl (by first | assumption | rfl) ?_
    refine wv_if_lt (tgt := 16) dX1_let_4 (by decide) (fun h4 => absurd h4 (by rw [h8]; exact nI_pos (by omega))) (fun h4 => ?_)
    refine wv_aload_n dX1_let_7 rfl ?_
    refine wv_getI fX1_32 dX1_let_8 rfl (by first | assumption | rfl) ?_
    refine wv_bipush (v := 40) dX1_let_11 (by decide) ?_
    refine wv_icmp_lt (tgt := 18) dX1_let_13 (by decide) (fun h13 => ?_) (fun h13 => absurd (by rw [h8]; exact nI_lt (b := 40) (by omega) (by omega)) h13)
    refine wv_aload_n dX1_let_18 rfl ?_
    refine wv_getR fX1_29 dX1_let_19 rfl (by first | assumption | rfl) (by first | exact hR _ _ _ rfl | assumption) ?_
    refine wv_aload_n dX1_let_22 rfl ?_
    refine wv_getI fX1_32 dX1_let_23 rfl (by first | assumption | rfl) ?_
    refine wv_lald dX1_let_26 (by first | assumption | rfl) (by rw [h8]; exact vp_in_nI hf40 (by decide)) ?_
    rw [h8, nI_clamp (by omega), hsh]
    refine wv_aload_n dX1_let_27 rfl ?_
    refine wv_getR fX1_49 dX1_let_28 rfl (by first | assumption | rfl) (by first | exact hR _ _ _ rfl | assumption) ?_
    refine wv_getL fX1_55 dX1_let_31 rfl (by first | assumption | rfl) ?_
    refine wv_land dX1_let_34 ?_
    refine wv_lconst (v := 0) dX1_let_35 (by decide) ?_
    refine wv_lcmp dX1_let_36 ?_
    refine wv_if_eq (tgt := 42) dX1_let_37 (by decide) (fun h37 => ?_) (fun h37 => ?_)
    · rw [lg_cmp_eq, hga] at h37
      refine wv_aload_n dX1_let_42 rfl ?_
      refine wv_aload_n dX1_let_43 rfl ?_
      refine wv_getR fX1_29 dX1_let_44 rfl (by first | assumption | rfl) (by first | exact hR _ _ _ rfl | assumption) ?_
      refine wv_aload_n dX1_let_47 rfl ?_
      refine wv_getI fX1_32 dX1_let_48 rfl (by first | assumption | rfl) ?_
      refine wv_lald dX1_let_51 (by first | assumption | rfl) (by rw [h8]; exact vp_in_nI hf40 (by decide)) ?_
      rw [h8, nI_clamp (by omega), hsh]
      refine wv_v1u oX3_begin kX1_61 dX1_let_52 (by omega) (by first | assumption | rfl) ⟨rfl, by decide⟩ (Nat.le_of_ble_eq_true rfl) (Nat.le_of_ble_eq_true rfl) (cP_begin q _ hq) ?_
      refine wv_aload_n dX1_let_55 rfl ?_
      refine wv_getI fX1_32 dX1_let_56 rfl (by first | assumption | rfl) ?_
      refine wv_iconst (v := 1) dX1_let_59 (by decide) ?_
      refine wv_iadd dX1_let_60 ?_
      rw [h8, nI_1]
      refine wv_istore_k (i := 2) dX1_let_61 rfl (by decide) ?_
      have hb := pl_begin (L := L) (q := q) (u := a / 4 % 3 + 1) (r := a % 4) (g := g) (x := u) (f := lb u) (by omega) (by omega) (fun s hs => by
        by_cases hsn : s < gN g
        · have := cn_pos.mp h37 s hsn
          cases hz : lb u s <;> cases hz2 : gG g s <;> simp_all
        · simp [hsn, hub s (by omega)])
      have hcut : flG g a kx (39 - f) (f + 1) (ps0 g (lb u)) = flG g a kx (lx - f) (f + 1) (ps0 g (lb u)) := by
        have := flG_cut (g := g) (a := a) (kx := kx) (lx - f) (39 - lx) (f + 1) (ps0 g (lb u)) (fun x h1 h2 => by
          have := (lst_some hlx).2 x (by omega) (by omega)
          cases hz : kx x with
          | none => rfl
          | some z => simp [hz] at this)
        rwa [show lx - f + (39 - lx) = 39 - f by omega] at this
      rw [hS, hcut]
      have hgo := lp lx hlx40 hlx (lx - f) (f + 1) (ps0 g (lb u)) _ (by omega) (fun b hb => by funext d; simp [hb]) hb.1 hb.2
      simp only [h37, decide_true, Bool.true_and]
      exact wv_le (by simp [wr_leq, wr_s1, wr_s2, wr_wide]) (hgo)
    · rw [lg_cmp_eq, hga] at h37
      refine wv_iconst (v := 0) dX1_let_40 (by decide) ?_
      refine wv_zret rfl rfl dX1_let_41 ?_
      refine ⟨?_, rfl, rfl, rfl, fun _ _ => rfl⟩
      rw [hS]
      simp [h37]

