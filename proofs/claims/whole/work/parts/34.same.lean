/-! same -/
def alk (g : RG) (a b : Nat) : Nat → (Nat → Int32) → (Nat → Int32) → Bool
  | 0, _, _ => true
  | k + 1, ps, qs => decide (uL (gN g) (pst g a ps) = uL (gN g) (pst g b qs)) && alk g a b k (pst g a ps) (pst g b qs)
def alS (g : RG) (a b : Nat) (f : Nat → Bool) : Bool := alk g a b 60 (ps0 g f) (ps0 g f)
theorem plB_fr {L L' : wr_TL} {q n : Nat} {ps : Nat → Int32} (h : plB L q n ps) (e : L' q = L q) : plB L' q n ps := by
  unfold plB at *
  rw [e]
  exact h
def smS (g : RG) (a b : Nat) : Bool := decide (cn (fun n => !decide (cn (fun x => !alS g a b (sfB (gN g) x (n + 1))) (gN g) = 0)) 3 = 0)
theorem smS_iff {g : RG} {a b : Nat} : smS g a b = true ↔ ∀ n, n < 3 → ∀ x, x < gN g → alS g a b (sfB (gN g) x (n + 1)) = true := by
  unfold smS
  rw [decide_eq_true_iff, cn_pos]
  constructor
  · intro h n hn x hx
    have := h n hn
    simp only [Bool.not_eq_false', decide_eq_true_eq] at this
    simpa using cn_pos.mp this x hx
  · intro h n hn
    simp only [Bool.not_eq_false', decide_eq_true_eq]
    exact cn_pos.mpr (fun x hx => by simp [h n hn x hx])
def aSame (g : RG) (x y : Int32) : Int32 := if (0 ≤ x ∧ x < 324) ∧ (0 ≤ y ∧ y < 324) then (if smS g (tN x) (tN y) = true then 1 else 0) else -1
set_option maxHeartbeats 4000000 in
set_option maxRecDepth 100000 in
theorem cW_alike {l : Launch} {I : wr_TI} {L : wr_TL} {R : wr_TR} (hR : wr_RC R) (t : Nat) (ht : t = 3 ∨ t = 10) (g : RG) (hV : rgV I L t g) (a b : Nat) (ha : a < 324) (hb : b < 324) (hT : plT I R 37 t a g) (hT2 : plT I R 38 t b g) (x : Int64) (f : Nat → Bool) (hx : ∀ s, s < 64 → lb x s = (decide (s < gN g) && (!gG g s && f s))) : wr_P l 4 mX7_goAlike [.ref 0, .long x] SH I L R (fun v s' I' L' R' => v = some (.int (if alS g a b f = true then 1 else 0)) ∧ s' = SH ∧ I' = I ∧ R' = R ∧ ∀ d, d ≠ 37 → d ≠ 38 → L' d = L d) := by
  have hg := isG_of hR ht
  obtain ⟨-, g0, -⟩ := id hg
  have hn := hV.1
  have hn6 := hV.2.1
  have hn40 := hV.2.2.1
  have lp : ∀ (k i : Nat) (ps qs : Nat → Int32) (K : wr_TL), i + k = 60 → (∀ d, d ≠ 37 → d ≠ 38 → K d = L d) → plB K 37 (gN g) ps → pvl g (a / 4 % 3 + 1) (a % 4) ps → plB K 38 (gN g) qs → pvl g (b / 4 % 3 + 1) (b % 4) qs → wr_V l 4 mX7_goAlike 18 [some (.ref 0), none, none, some (.int (nI i))] [] SH I K R 0 0 (fun v s' I' L' R' => v = some (.int (if alk g a b k ps qs = true then 1 else 0)) ∧ s' = SH ∧ I' = I ∧ R' = R ∧ ∀ d, d ≠ 37 → d ≠ 38 → L' d = L d) := by
    intro k
    induction k with
    | zero =>
      intro i ps qs K hi hf hB hp hB2 hp2
      obtain rfl : i = 60 := by omega
      refine wv_iload_n dX7_goAlike_18 rfl ?_
      refine wv_bipush (v := 60) dX7_goAlike_19 (by decide) ?_
      refine wv_icmp_ge (tgt := 64) dX7_goAlike_21 (by decide) (fun h21 => ?_) (fun h21 => absurd (nI_le (a := 60) (by omega) (by omega)) h21)
      refine wv_iconst (v := 1) dX7_goAlike_64 (by decide) ?_
      refine wv_zret rfl rfl dX7_goAlike_65 ?_
      exact ⟨rfl, rfl, rfl, rfl, hf⟩
    | succ k ih =>
      intro i ps qs K hi hf hB hp hB2 hp2
      have hVK : rgV I K t g := rgV_fr hV (fun _ _ _ _ => rfl) (hf t (by omega) (by omega))
      refine wv_iload_n dX7_goAlike_18 rfl ?_
      refine wv_bipush (v := 60) dX7_goAlike_19 (by decide) ?_
      refine wv_icmp_ge (tgt := 64) dX7_goAlike_21 (by decide) (fun h21 => absurd h21 (nI_ge (b := 60) (by omega) (by omega))) (fun h21 => ?_)
      refine wv_aload_n dX7_goAlike_24 rfl ?_
      refine wv_getR fX7_65 dX7_goAlike_25 rfl (by first | assumption | rfl) (by first | exact hR _ _ _ rfl | assumption) ?_
      refine wv_v0 oX3_goOn kX7_273 dX7_goAlike_28 (by omega) (by first | assumption | rfl) ⟨rfl, by decide⟩ (Nat.le_of_ble_eq_true rfl) (Nat.le_of_ble_eq_true rfl) (cP_goS 37 t a g ps rfl g0 (by omega) hVK hT ha hB hp) (fun v9 s9 J9 L9 R9 h9 => ?_)
      obtain ⟨rfl, rfl, rfl, rfl, hB9, hp9, hf9⟩ := h9
      have hV9 : rgV J9 L9 t g := rgV_fr hVK (fun _ _ _ _ => rfl) (hf9 t (by omega))
      refine wv_aload_n dX7_goAlike_31 rfl ?_
      refine wv_getR fX7_69 dX7_goAlike_32 rfl (by first | assumption | rfl) (by first | exact hR _ _ _ rfl | assumption) ?_
      refine wv_v0 oX3_goOn kX7_273 dX7_goAlike_35 (by omega) (by first | assumption | rfl) ⟨rfl, by decide⟩ (Nat.le_of_ble_eq_true rfl) (Nat.le_of_ble_eq_true rfl) (cP_goS 38 t b g qs rfl g0 (by omega) hV9 hT2 hb (plB_fr hB2 (hf9 38 (by omega))) hp2) (fun v8 s8 J8 L8 R8 h8 => ?_)
      obtain ⟨rfl, rfl, rfl, rfl, hB8, hp8, hf8⟩ := h8
      have hBN := plB_fr hB9 (hf8 37 (by omega))
      have hu1 := pl_up hn40 (by omega) (by omega) hBN hp9
      have hu2 := pl_up hn40 (by omega) (by omega) hB8 hp8
      refine wv_aload_n dX7_goAlike_38 rfl ?_
      refine wv_getR fX7_65 dX7_goAlike_39 rfl (by first | assumption | rfl) (by first | exact hR _ _ _ rfl | assumption) ?_
      refine wv_v0e oX3_allUp kX7_276 dX7_goAlike_42 (by omega) (by first | assumption | rfl) ⟨rfl, by decide⟩ (Nat.le_of_ble_eq_true rfl) (Nat.le_of_ble_eq_true rfl) (cP_allUp 37 rfl) ?_
      refine wv_aload_n dX7_goAlike_45 rfl ?_
      refine wv_getR fX7_69 dX7_goAlike_46 rfl (by first | assumption | rfl) (by first | exact hR _ _ _ rfl | assumption) ?_
      refine wv_v0e oX3_allUp kX7_276 dX7_goAlike_49 (by omega) (by first | assumption | rfl) ⟨rfl, by decide⟩ (Nat.le_of_ble_eq_true rfl) (Nat.le_of_ble_eq_true rfl) (cP_allUp 38 rfl) ?_
      refine wv_lcmp dX7_goAlike_52 ?_
      refine wv_if_eq (tgt := 58) dX7_goAlike_53 (by decide) (fun h53 => ?_) (fun h53 => ?_)
      · rw [lg_cmp_eq, hu1, hu2] at h53
        refine wv_iinc (v := nI (i + 1)) dX7_goAlike_58 rfl (nI_1 (i)) (by decide) ?_
        refine wv_goto (tgt := 18) dX7_goAlike_61 (by decide) ?_
        have e : alk g a b (k + 1) ps qs = alk g a b k (pst g a ps) (pst g b qs) := by simp [alk, h53]
        rw [e]
        exact wv_le (by simp [wr_leq, wr_s1, wr_s2, wr_wide]) (ih (i + 1) _ _ L8 (by omega) (fun d h1 h2 => (hf8 d h2).trans ((hf9 d h1).trans (hf d h1 h2))) hBN hp9 hB8 hp8)
      · rw [lg_cmp_eq, hu1, hu2] at h53
        refine wv_iconst (v := 0) dX7_goAlike_56 (by decide) ?_
        refine wv_zret rfl rfl dX7_goAlike_57 ?_
        refine ⟨?_, rfl, rfl, rfl, fun d h1 h2 => (hf8 d h2).trans ((hf9 d h1).trans (hf d h1 h2))⟩
        simp [alk, h53]
  refine wv_pad 1 ?_
  show wr_V l 4 mX7_goAlike 0 [some (.ref 0), some (.long x), none, none] [] SH I L R 0 0 _
  refine wv_aload_n dX7_goAlike_0 rfl ?_
  refine wv_getR fX7_65 dX7_goAlike_1 rfl (by first | assumption | rfl) (by first | exact hR _ _ _ rfl | assumption) ?_
  refine wv_lload_n dX7_goAlike_4 rfl ?_
  refine wv_v1u oX3_begin kX7_269 dX7_goAlike_5 (by omega) (by first | assumption | rfl) ⟨rfl, by decide⟩ (Nat.le_of_ble_eq_true rfl) (Nat.le_of_ble_eq_true rfl) (cP_begin 37 _ rfl) ?_
  refine wv_aload_n dX7_goAlike_8 rfl ?_
  refine wv_getR fX7_69 dX7_goAlike_9 rfl (by first | assumption | rfl) (by first | exact hR _ _ _ rfl | assumption) ?_
  refine wv_lload_n dX7_goAlike_12 rfl ?_
  refine wv_v1u oX3_begin kX7_269 dX7_goAlike_13 (by omega) (by first | assumption | rfl) ⟨rfl, by decide⟩ (Nat.le_of_ble_eq_true rfl) (Nat.le_of_ble_eq_true rfl) (cP_begin 38 _ rfl) ?_
  refine wv_iconst (v := nI 0) dX7_goAlike_16 rfl ?_
  refine wv_istore_k (i := 3) dX7_goAlike_17 rfl (by decide) ?_
  have q1 := pl_begin (L := L) (q := 37) (u := a / 4 % 3 + 1) (r := a % 4) (g := g) (x := x) (f := f) (by omega) (by omega) hx
  have q2 := pl_begin (L := fun a b => if a = 37 ∧ b = 7 then x else if a = 37 ∧ 8 ≤ b ∧ b ≤ 12 then 0 else L a b) (q := 38) (u := b / 4 % 3 + 1) (r := b % 4) (g := g) (x := x) (f := f) (by omega) (by omega) hx
  exact wv_le (by simp [wr_leq, wr_s1, wr_s2, wr_wide]) (lp 60 0 (ps0 g f) (ps0 g f) _ (by omega) (fun d h1 h2 => by funext e; simp [h1, h2]) (plB_fr q1.1 (by funext e; simp)) q1.2 q2.1 q2.2)

set_option maxHeartbeats 4000000 in
set_option maxRecDepth 100000 in
theorem cW_sameL {l : Launch} {I : wr_TI} {L : wr_TL} {R : wr_TR} (hR : wr_RC R) (t : Nat) (ht : t = 3 ∨ t = 10) (hto : R 0 1 = t + 1) (g : RG) (hV : rgV I L t g) (a b : Nat) (ha : a < 324) (hb : b < 324) (J : wr_TI) (K2 : wr_TR) (hJ : frQ I L R J L K2) (hT : plT J K2 37 t a g) (hT2 : plT J K2 38 t b g) : ∀ (r c : Nat) (K : wr_TL), c + r = 3 → (∀ d, d ≠ 37 → d ≠ 38 → K d = L d) → (∀ n, n < c → ∀ x, x < gN g → alS g a b (sfB (gN g) x (n + 1)) = true) → wr_V l 5 mX7_same 50 [some (.ref 0), none, none, some (.int (nI (c + 1))), none] [] SH J K K2 0 0 (fun v s' I' L' R' => v = some (.int (if smS g a b = true then 1 else 0)) ∧ s' = SH ∧ frQ I L R I' L' R') := by
  have hg := isG_of hR ht
  obtain ⟨-, g0, -⟩ := id hg
  have hn := hV.1
  have hn6 := hV.2.1
  have hn40 := hV.2.2.1
  have hRJ := frQ_R hJ hR
  have hto2 : K2 0 1 = t + 1 := by rw [hJ.2.2 _ _ (by omega)]; exact hto
  have hR := hRJ
  intro r
  induction r with
  | zero =>
    intro c K hc hf ho
    obtain rfl : c = 3 := by omega
    refine wv_iload_n dX7_same_50 rfl ?_
    refine wv_iconst (v := 3) dX7_same_51 (by decide) ?_
    refine wv_icmp_gt (tgt := 113) dX7_same_52 (by decide) (fun h52 => ?_) (fun h52 => absurd (nI_lt (a := 3) (by omega) (by omega)) h52)
    refine wv_iconst (v := 1) dX7_same_113 (by decide) ?_
    refine wv_iret rfl dX7_same_114 ?_
    refine ⟨?_, rfl, hJ.1, fun d h1 h2 => hf d h1 h2, hJ.2.2⟩
    rw [if_pos (smS_iff.mpr ho)]
  | succ r ih =>
    intro c K hc hf ho
    have inn : ∀ (k x : Nat) (K : wr_TL), x + k = gN g → (∀ d, d ≠ 37 → d ≠ 38 → K d = L d) → (∀ y, y < x → alS g a b (sfB (gN g) y (c + 1)) = true) → wr_V l 5 mX7_same 58 [some (.ref 0), none, none, some (.int (nI (c + 1))), some (.int (nI x))] [] SH J K K2 0 0 (fun v s' I' L' R' => v = some (.int (if smS g a b = true then 1 else 0)) ∧ s' = SH ∧ frQ I L R I' L' R') := by
      intro k
      induction k with
      | zero =>
        intro x K hx hf hy
        obtain rfl : x = gN g := by omega
        have hVK : rgV J K t g := frQ_V ht ⟨hJ.1, hf, hJ.2.2⟩ hV
        refine wv_iload dX7_same_58 rfl ?_
        refine wv_aload_n dX7_same_60 rfl ?_
        refine wv_getR fX7_19 dX7_same_61 rfl (by first | assumption | rfl) (by first | exact hR _ _ _ rfl | assumption) ?_
        refine wv_getI fX7_94 dX7_same_64 rfl (by first | assumption | rfl) ?_
        refine wv_icmp_ge (tgt := 107) dX7_same_67 (by decide) (fun h67 => ?_) (fun h67 => absurd (by rw [hVK.1]; exact Int32.le_refl _) h67)
        refine wv_iinc (v := nI (c + 1 + 1)) dX7_same_107 rfl (nI_1 (c + 1)) (by decide) ?_
        refine wv_goto (tgt := 50) dX7_same_110 (by decide) ?_
        exact wv_le (by simp [wr_leq, wr_s1, wr_s2, wr_wide]) (ih (c + 1) K (by omega) hf (fun n h1 y h2 => by rcases (by omega : n < c ∨ n = c) with h | rfl; exact ho n h y h2; exact hy y h2))
      | succ k ik =>
        intro x K hx hf hy
        have hVK : rgV J K t g := frQ_V ht ⟨hJ.1, hf, hJ.2.2⟩ hV
        refine wv_iload dX7_same_58 rfl ?_
        refine wv_aload_n dX7_same_60 rfl ?_
        refine wv_getR fX7_19 dX7_same_61 rfl (by first | assumption | rfl) (by first | exact hR _ _ _ rfl | assumption) ?_
        refine wv_getI fX7_94 dX7_same_64 rfl (by first | assumption | rfl) ?_
        refine wv_icmp_ge (tgt := 107) dX7_same_67 (by decide) (fun h67 => absurd h67 (by rw [hVK.1]; exact nI_ge (by omega) (by omega))) (fun h67 => ?_)
        refine wv_aload_n dX7_same_70 rfl ?_
        refine wv_aload_n dX7_same_71 rfl ?_
        refine wv_getR fX7_19 dX7_same_72 rfl (by first | assumption | rfl) (by first | exact hR _ _ _ rfl | assumption) ?_
        refine wv_iload dX7_same_75 rfl ?_
        refine wv_iload_n dX7_same_77 rfl ?_
        refine wv_v2e oX5_seatsFrom kX7_180 dX7_same_78 (by omega) (by first | assumption | rfl) ⟨rfl, by decide⟩ (Nat.le_of_ble_eq_true rfl) (Nat.le_of_ble_eq_true rfl) (cR_from t _ _ g0) ?_
        refine wv_aload_n dX7_same_81 rfl ?_
        refine wv_getR fX7_19 dX7_same_82 rfl (by first | assumption | rfl) (by first | exact hR _ _ _ rfl | assumption) ?_
        refine wv_getL fX7_129 dX7_same_85 rfl (by first | assumption | rfl) ?_
        refine wv_ldc2_w nX7_188 dX7_same_88 ?_
        refine wv_lxor dX7_same_91 ?_
        refine wv_land dX7_same_92 ?_
        refine wv_v1 oX7_goAlike kX7_237 dX7_same_93 (by omega) (by first | assumption | rfl) ⟨rfl, by decide⟩ (Nat.le_of_ble_eq_true rfl) (Nat.le_of_ble_eq_true rfl) (cW_alike hRJ t ht g hVK a b ha hb hT hT2 _ (sfB (gN g) x (c + 1)) (fun s hs => by
          rw [lb_and, lb_not _ hs, hVK.2.2.2.1, hVK.1, sf_lb hn40 (by omega) (by omega) (by omega)]
          unfold sfB
          cases decide (s < gN g) <;> cases gG g s <;> simp)) (fun v9 s9 J9 L9 R9 h9 => ?_)
        obtain ⟨rfl, rfl, rfl, rfl, hf9⟩ := h9
        refine wv_if_ne (tgt := 101) dX7_same_96 (by decide) (fun h96 => ?_) (fun h96 => ?_)
        · rw [if10, Decidable.not_not] at h96
          refine wv_iinc (v := nI (x + 1)) dX7_same_101 rfl (nI_1 (x)) (by decide) ?_
          refine wv_goto (tgt := 58) dX7_same_104 (by decide) ?_
          exact wv_le (by simp [wr_leq, wr_s1, wr_s2, wr_wide]) (ik (x + 1) L9 (by omega) (fun d h1 h2 => (hf9 d h1 h2).trans (hf d h1 h2)) (fun y h1 => by rcases (by omega : y < x ∨ y = x) with h | rfl; exact hy y h; exact h96))
        · rw [if10] at h96
          refine wv_iconst (v := 0) dX7_same_99 (by decide) ?_
          refine wv_iret rfl dX7_same_100 ?_
          refine ⟨?_, rfl, hJ.1, fun d h1 h2 => (hf9 d h1 h2).trans (hf d h1 h2), hJ.2.2⟩
          rw [if_neg (fun z => h96 (smS_iff.mp z c (by omega) x (by omega)))]
    refine wv_iload_n dX7_same_50 rfl ?_
    refine wv_iconst (v := 3) dX7_same_51 (by decide) ?_
    refine wv_icmp_gt (tgt := 113) dX7_same_52 (by decide) (fun h52 => absurd h52 (nI_nlt (a := 3) (b := c + 1) (by omega) (by omega))) (fun h52 => ?_)
    refine wv_iconst (v := nI 0) dX7_same_55 rfl ?_
    refine wv_istore dX7_same_56 (by decide) ?_
    exact wv_le (by simp [wr_leq, wr_s1, wr_s2, wr_wide]) (inn (gN g) 0 K (by omega) hf (fun y h => absurd h (by omega)))

set_option maxHeartbeats 4000000 in
set_option maxRecDepth 100000 in
theorem cW_same {l : Launch} {I : wr_TI} {L : wr_TL} {R : wr_TR} (hR : wr_RC R) (t : Nat) (ht : t = 3 ∨ t = 10) (hto : R 0 1 = t + 1) (g : RG) (hV : rgV I L t g) (x y : Int32) : wr_P l 5 mX7_same [.ref 0, .int x, .int y] SH I L R (fun v s' I' L' R' => v = some (.int (aSame g x y)) ∧ s' = SH ∧ frQ I L R I' L' R') := by
  have hg := isG_of hR ht
  obtain ⟨-, g0, -⟩ := id hg
  have hn := hV.1
  have hn6 := hV.2.1
  have hn40 := hV.2.2.1
  refine wv_pad 2 ?_
  show wr_V l 5 mX7_same 0 [some (.ref 0), some (.int x), some (.int y), none, none] [] SH I L R 0 0 _
  refine wv_iload_n dX7_same_0 rfl ?_
  refine wv_if_lt (tgt := 22) dX7_same_1 (by decide) (fun h1 => ?_) (fun h1 => ?_)
  · refine wv_iconst (v := (-1)) dX7_same_22 (by decide) ?_
    refine wv_iret rfl dX7_same_23 ?_
    refine ⟨?_, rfl, frQ_rf⟩
    unfold aSame
    rw [if_neg]
    grind
  · refine wv_iload_n dX7_same_4 rfl ?_
    refine wv_sipush (v := 324) dX7_same_5 (by decide) ?_
    refine wv_icmp_ge (tgt := 22) dX7_same_8 (by decide) (fun h8 => ?_) (fun h8 => ?_)
    · refine wv_iconst (v := (-1)) dX7_same_22 (by decide) ?_
      refine wv_iret rfl dX7_same_23 ?_
      refine ⟨?_, rfl, frQ_rf⟩
      unfold aSame
      rw [if_neg]
      grind
    · refine wv_iload_n dX7_same_11 rfl ?_
      refine wv_if_lt (tgt := 22) dX7_same_12 (by decide) (fun h12 => ?_) (fun h12 => ?_)
      · refine wv_iconst (v := (-1)) dX7_same_22 (by decide) ?_
        refine wv_iret rfl dX7_same_23 ?_
        refine ⟨?_, rfl, frQ_rf⟩
        unfold aSame
        rw [if_neg]
        grind
      · refine wv_iload_n dX7_same_15 rfl ?_
        refine wv_sipush (v := 324) dX7_same_16 (by decide) ?_
        refine wv_icmp_lt (tgt := 24) dX7_same_19 (by decide) (fun h19 => ?_) (fun h19 => ?_)
        · have hx : 0 ≤ x ∧ x < 324 := ⟨Int32.not_lt.mp h1, Int32.not_le.mp h8⟩
          have hy : 0 ≤ y ∧ y < 324 := ⟨Int32.not_lt.mp h12, h19⟩
          obtain ⟨a, ha, rfl⟩ := ix_of (n := 324) hx (by omega)
          obtain ⟨b, hb, rfl⟩ := ix_of (n := 324) hy (by omega)
          refine wv_aload_n dX7_same_24 rfl ?_
          refine wv_getR fX7_65 dX7_same_25 rfl (by first | assumption | rfl) (by first | exact hR _ _ _ rfl | assumption) ?_
          refine wv_iload_n dX7_same_28 rfl ?_
          refine wv_aload_n dX7_same_29 rfl ?_
          refine wv_getR fX7_19 dX7_same_30 rfl (by first | assumption | rfl) (by first | exact hR _ _ _ rfl | assumption) ?_
          refine wv_v2 oX3_take kX7_233 dX7_same_33 (by omega) (by first | assumption | rfl) ⟨rfl, by decide⟩ (Nat.le_of_ble_eq_true rfl) (Nat.le_of_ble_eq_true rfl) (cP_take 37 t a g rfl g0 (by omega) hV ha) (fun v9 s9 J9 L9 R9 h9 => ?_)
          obtain ⟨rfl, rfl, rfl, rfl, hT9, hf9⟩ := h9
          have hq9 : frQ I L9 R J9 L9 (wr_uR R 37 0 (t + 1)) := ⟨fun b h1 _ => hf9 b h1, fun _ _ _ => rfl, fun j k h => by simp only [wr_uR]; rw [if_neg (fun z => h ⟨Or.inl z.1, z.2⟩)]⟩
          have hR9 := frQ_R hq9 hR
          have hto9 : wr_uR R 37 0 (t + 1) 0 1 = t + 1 := by rw [hq9.2.2 _ _ (by omega)]; exact hto
          have hR0 := hR
          have hR := hR9
          refine wv_aload_n dX7_same_36 rfl ?_
          refine wv_getR fX7_69 dX7_same_37 rfl (by first | assumption | rfl) (by first | exact hR _ _ _ rfl | assumption) ?_
          refine wv_iload_n dX7_same_40 rfl ?_
          refine wv_aload_n dX7_same_41 rfl ?_
          refine wv_getR fX7_19 dX7_same_42 rfl (by first | assumption | rfl) (by first | exact hR _ _ _ rfl | assumption) ?_
          refine wv_v2 oX3_take kX7_233 dX7_same_45 (by omega) (by first | assumption | rfl) ⟨rfl, by decide⟩ (Nat.le_of_ble_eq_true rfl) (Nat.le_of_ble_eq_true rfl) (cP_take 38 t b g rfl g0 (by omega) (frQ_V ht hq9 hV) hb) (fun v8 s8 J8 L8 R8 h8 => ?_)
          obtain ⟨rfl, rfl, rfl, rfl, hT8, hf8⟩ := h8
          have hq8 : frQ J9 L8 (wr_uR R 37 0 (t + 1)) J8 L8 (wr_uR (wr_uR R 37 0 (t + 1)) 38 0 (t + 1)) := ⟨fun b _ h1 => hf8 b h1, fun _ _ _ => rfl, fun j k h => by simp only [wr_uR]; rw [if_neg (fun z => h ⟨Or.inr z.1, z.2⟩)]⟩
          have hT9b : plT J8 (wr_uR (wr_uR R 37 0 (t + 1)) 38 0 (t + 1)) 37 t a g := by
            unfold plT at *
            rw [hf8 37 (by omega)]
            refine ⟨?_, hT9.2⟩
            simp [wr_uR]
          refine wv_iconst (v := nI (0 + 1)) dX7_same_48 rfl ?_
          refine wv_istore_k (i := 3) dX7_same_49 rfl (by decide) ?_
          unfold aSame
          rw [if_pos ⟨hx, hy⟩, tN_nI (by omega), tN_nI (by omega)]
          exact wv_le (by simp [wr_leq, wr_s1, wr_s2, wr_wide]) (cW_sameL hR0 t ht hto g hV a b ha hb J8 _ (frQ_tr hq9 hq8) hT9b hT8 3 0 L8 (by omega) (fun _ _ _ => rfl) (fun n h => absurd h (by omega)))
        · refine wv_iconst (v := (-1)) dX7_same_22 (by decide) ?_
          refine wv_iret rfl dX7_same_23 ?_
          refine ⟨?_, rfl, frQ_rf⟩
          unfold aSame
          rw [if_neg]
          grind

