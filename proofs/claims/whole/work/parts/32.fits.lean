/-! fits, fit, sure -/
def frQ (I : wr_TI) (L : wr_TL) (R : wr_TR) (I' : wr_TI) (L' : wr_TL) (R' : wr_TR) : Prop := (∀ b, b ≠ 37 → b ≠ 38 → I' b = I b) ∧ (∀ b, b ≠ 37 → b ≠ 38 → L' b = L b) ∧ ∀ j k, ¬ ((j = 37 ∨ j = 38) ∧ k = 0) → R' j k = R j k
theorem frQ_rf {I : wr_TI} {L : wr_TL} {R : wr_TR} : frQ I L R I L R := ⟨fun _ _ _ => rfl, fun _ _ _ => rfl, fun _ _ _ => rfl⟩
theorem frQ_tr {I I1 I2 : wr_TI} {L L1 L2 : wr_TL} {R R1 R2 : wr_TR} (h1 : frQ I L R I1 L1 R1) (h2 : frQ I1 L1 R1 I2 L2 R2) : frQ I L R I2 L2 R2 := ⟨fun b h3 h4 => (h2.1 b h3 h4).trans (h1.1 b h3 h4), fun b h3 h4 => (h2.2.1 b h3 h4).trans (h1.2.1 b h3 h4), fun j k h => (h2.2.2 j k h).trans (h1.2.2 j k h)⟩
theorem wr_cr_37 (j k r : Nat) (h : wr_cr j k = some r) : ¬ ((j = 37 ∨ j = 38) ∧ k = 0) := by
  rintro ⟨rfl | rfl, rfl⟩ <;> simp [wr_cr] at h
theorem frQ_R {I I1 : wr_TI} {L L1 : wr_TL} {R R1 : wr_TR} (h : frQ I L R I1 L1 R1) (hR : wr_RC R) : wr_RC R1 := fun j k r hr => by rw [h.2.2 j k (wr_cr_37 j k r hr)]; exact hR j k r hr
theorem frQ_V {I I1 : wr_TI} {L L1 : wr_TL} {R R1 : wr_TR} {t : Nat} {g : RG} (ht : t = 3 ∨ t = 10) (h : frQ I L R I1 L1 R1) (hV : rgV I L t g) : rgV I1 L1 t g := rgV_fr hV (fun a h1 h2 h3 => h.1 a (by omega) (by omega)) (h.2.1 t (by omega) (by omega))
theorem frQ_k {I I1 : wr_TI} {L L1 : wr_TL} {R R1 : wr_TR} {g : RG} {kx : Nat → Option Int64} (h : frQ I L R I1 L1 R1) (hk : kV I L g kx) : kV I1 L1 g kx := kV_fr hk (h.1 30 (by omega) (by omega)) (h.1 35 (by omega) (by omega)) (h.2.1 36 (by omega) (by omega))
def pit (g : RG) (a : Nat) : Nat → (Nat → Int32) → (Nat → Int32)
  | 0, ps => ps
  | k + 1, ps => pit g a k (pst g a ps)
set_option maxHeartbeats 4000000 in
set_option maxRecDepth 100000 in
theorem cF_shown {l : Launch} {I : wr_TI} {L : wr_TL} {R : wr_TR} (hR : wr_RC R) (q t a f m : Nat) (g : RG) (kx : Nat → Option Int64) (u : Int64) (hq : SH[q]? = some (.inr 3)) (hqv : q = 37 ∨ q = 38) (ht : t = 3 ∨ t = 10) (hV : rgV I L t g) (hT : plT I R q t a g) (ha : a < 324) (hk : kV I L g kx) (hff : fst (fun x => (kx x).isSome) 40 = some f) (hu : kx f = some u) (hga : cn (fun s => lb u s && gG g s) (gN g) = 0) (hfm : f ≤ m) (hm : m < 40) : wr_P l 4 mX1_shownBy [.ref 30, .ref q, .int (nI m)] SH I L R (fun v s' I' L' R' => v = some (.long (uL (gN g) (pit g a (m - f) (ps0 g (lb u))))) ∧ s' = SH ∧ I' = I ∧ R' = R ∧ ∀ b, b ≠ q → L' b = L b) := by
  have hg := isG_of hR ht
  obtain ⟨-, g0, -⟩ := id hg
  have hn6 := hV.2.1
  have hn40 := hV.2.2.1
  obtain ⟨kv1, kv2, kv3, kv4⟩ := id hk
  have hqt : t ≠ q := by omega
  have hf40 : f < 40 := fst_lt hff
  have h8 : I 30 8 = nI f := by rw [kv3, hff]; rfl
  obtain ⟨hsh, hub⟩ := kv2 f u hf40 hu
  have lp : ∀ (k i : Nat) (ps : Nat → Int32) (K : wr_TL), i + k = m → (∀ b, b ≠ q → K b = L b) → plB K q (gN g) ps → pvl g (a / 4 % 3 + 1) (a % 4) ps → wr_V l 4 mX1_shownBy 36 [some (.ref 30), some (.ref q), some (.int (nI m)), some (.int (nI i))] [] SH I K R 0 0 (fun v s' I' L' R' => v = some (.long (uL (gN g) (pit g a k ps))) ∧ s' = SH ∧ I' = I ∧ R' = R ∧ ∀ b, b ≠ q → L' b = L b) := by
    intro k
    induction k with
    | zero =>
      intro i ps K hi hf hB hp
      obtain rfl : i = m := by omega
      refine wv_iload_n dX1_shownBy_36 rfl ?_
      refine wv_iload_n dX1_shownBy_37 rfl ?_
      refine wv_icmp_ge (tgt := 57) dX1_shownBy_38 (by decide) (fun h38 => ?_) (fun h38 => absurd (nI_le (Nat.le_refl _) (by omega)) h38)
      refine wv_aload_n dX1_shownBy_57 rfl ?_
      refine wv_v0e oX3_allUp kX1_68 dX1_shownBy_58 (by omega) (by first | assumption | rfl) ⟨rfl, by decide⟩ (Nat.le_of_ble_eq_true rfl) (Nat.le_of_ble_eq_true rfl) (cP_allUp q hq) ?_
      refine wv_lret rfl dX1_shownBy_61 ?_
      refine ⟨?_, rfl, rfl, rfl, hf⟩
      rw [pl_up hn40 (by omega) (by omega) hB hp]
      rfl
    | succ k ih =>
      intro i ps K hi hf hB hp
      have hVK : rgV I K t g := rgV_fr hV (fun _ _ _ _ => rfl) (hf t hqt)
      refine wv_iload_n dX1_shownBy_36 rfl ?_
      refine wv_iload_n dX1_shownBy_37 rfl ?_
      refine wv_icmp_ge (tgt := 57) dX1_shownBy_38 (by decide) (fun h38 => absurd h38 (nI_ge (by omega) (by omega))) (fun h38 => ?_)
      refine wv_iload_n dX1_shownBy_41 rfl ?_
      refine wv_bipush (v := 40) dX1_shownBy_42 (by decide) ?_
      refine wv_icmp_ge (tgt := 57) dX1_shownBy_44 (by decide) (fun h44 => absurd h44 (nI_ge (b := 40) (by omega) (by omega))) (fun h44 => ?_)
      refine wv_aload_n dX1_shownBy_47 rfl ?_
      refine wv_v0 oX3_goOn kX1_65 dX1_shownBy_48 (by omega) (by first | assumption | rfl) ⟨rfl, by decide⟩ (Nat.le_of_ble_eq_true rfl) (Nat.le_of_ble_eq_true rfl) (cP_goS q t a g ps hq g0 hqt hVK hT ha hB hp) (fun v9 s9 J9 L9 R9 h9 => ?_)
      obtain ⟨rfl, rfl, rfl, rfl, hB9, hp9, hf9⟩ := h9
      refine wv_iinc (v := nI (i + 1)) dX1_shownBy_51 rfl (nI_1 (i)) (by decide) ?_
      refine wv_goto (tgt := 36) dX1_shownBy_54 (by decide) ?_
      exact wv_le (by simp [wr_leq, wr_s1, wr_s2, wr_wide]) (ih (i + 1) _ L9 (by omega) (fun b hb => (hf9 b hb).trans (hf b hb)) hB9 hp9)
  refine wv_pad 1 ?_
  show wr_V l 4 mX1_shownBy 0 [some (.ref 30), some (.ref q), some (.int (nI m)), none] [] SH I L R 0 0 _
  refine wv_aload_n dX1_shownBy_0 rfl ?_
  refine wv_getI fX1_32 dX1_shownBy_1 rfl (by first | assumption | rfl) ?_
  refine wv_if_lt (tgt := 16) dX1_shownBy_4 (by decide) (fun h4 => absurd h4 (by rw [h8]; exact nI_pos (by omega))) (fun h4 => ?_)
  refine wv_aload_n dX1_shownBy_7 rfl ?_
  refine wv_getI fX1_32 dX1_shownBy_8 rfl (by first | assumption | rfl) ?_
  refine wv_bipush (v := 40) dX1_shownBy_11 (by decide) ?_
  refine wv_icmp_lt (tgt := 18) dX1_shownBy_13 (by decide) (fun h13 => ?_) (fun h13 => absurd (by rw [h8]; exact nI_lt (b := 40) (by omega) (by omega)) h13)
  refine wv_aload_n dX1_shownBy_18 rfl ?_
  refine wv_aload_n dX1_shownBy_19 rfl ?_
  refine wv_getR fX1_29 dX1_shownBy_20 rfl (by first | assumption | rfl) (by first | exact hR _ _ _ rfl | assumption) ?_
  refine wv_aload_n dX1_shownBy_23 rfl ?_
  refine wv_getI fX1_32 dX1_shownBy_24 rfl (by first | assumption | rfl) ?_
  refine wv_lald dX1_shownBy_27 (by first | assumption | rfl) (by rw [h8]; exact vp_in_nI hf40 (by decide)) ?_
  rw [h8, nI_clamp (by omega), hsh]
  refine wv_v1u oX3_begin kX1_61 dX1_shownBy_28 (by omega) (by first | assumption | rfl) ⟨rfl, by decide⟩ (Nat.le_of_ble_eq_true rfl) (Nat.le_of_ble_eq_true rfl) (cP_begin q _ hq) ?_
  refine wv_aload_n dX1_shownBy_31 rfl ?_
  refine wv_getI fX1_32 dX1_shownBy_32 rfl (by first | assumption | rfl) ?_
  rw [h8]
  refine wv_istore_k (i := 3) dX1_shownBy_35 rfl (by decide) ?_
  have hb := pl_begin (L := L) (q := q) (u := a / 4 % 3 + 1) (r := a % 4) (g := g) (x := u) (f := lb u) (by omega) (by omega) (fun s hs => by
    by_cases hsn : s < gN g
    · have := cn_pos.mp hga s hsn
      cases hz : lb u s <;> cases hz2 : gG g s <;> simp_all
    · simp [hsn, hub s (by omega)])
  exact wv_le (by simp [wr_leq, wr_s1, wr_s2, wr_wide]) (lp (m - f) f (ps0 g (lb u)) _ (by omega) (fun b hb => by funext d; simp [hb]) hb.1 hb.2)

set_option maxHeartbeats 4000000 in
set_option maxRecDepth 100000 in
theorem cW_letBy {l : Launch} {I : wr_TI} {L : wr_TL} {R : wr_TR} (hR : wr_RC R) (t : Nat) (ht : t = 3 ∨ t = 10) (hto : R 0 1 = t + 1) (g : RG) (hV : rgV I L t g) (a : Nat) (kx : Nat → Option Int64) (ha : a < 324) (hk : kV I L g kx) : wr_P l 5 mX7_letByFilms [.ref 0, .int (nI a)] SH I L R (fun v s' I' L' R' => v = some (.int (if fitS g a kx = true then 1 else 0)) ∧ s' = SH ∧ frQ I L R I' L' R' ∧ plT I' R' 37 t a g) := by
  have hg := isG_of hR ht
  obtain ⟨-, g0, -⟩ := id hg
  refine wv_pad 0 ?_
  show wr_V l 5 mX7_letByFilms 0 [some (.ref 0), some (.int (nI a))] [] SH I L R 0 0 _
  refine wv_aload_n dX7_letByFilms_0 rfl ?_
  refine wv_getR fX7_65 dX7_letByFilms_1 rfl (by first | assumption | rfl) (by first | exact hR _ _ _ rfl | assumption) ?_
  refine wv_iload_n dX7_letByFilms_4 rfl ?_
  refine wv_aload_n dX7_letByFilms_5 rfl ?_
  refine wv_getR fX7_19 dX7_letByFilms_6 rfl (by first | assumption | rfl) (by first | exact hR _ _ _ rfl | assumption) ?_
  refine wv_v2 oX3_take kX7_233 dX7_letByFilms_9 (by omega) (by first | assumption | rfl) ⟨rfl, by decide⟩ (Nat.le_of_ble_eq_true rfl) (Nat.le_of_ble_eq_true rfl) (cP_take 37 t a g rfl g0 (by omega) hV ha) (fun v9 s9 J9 L9 R9 h9 => ?_)
  obtain ⟨rfl, rfl, rfl, rfl, hT9, hf9⟩ := h9
  have hq9 : frQ I L9 R J9 L9 (wr_uR R 37 0 (t + 1)) := ⟨fun b h1 _ => hf9 b h1, fun _ _ _ => rfl, fun j k h => by simp only [wr_uR]; rw [if_neg (fun z => h ⟨Or.inl z.1, z.2⟩)]⟩
  have hR9 := frQ_R hq9 hR
  have hR := hR9
  refine wv_aload_n dX7_letByFilms_12 rfl ?_
  refine wv_getR fX7_56 dX7_letByFilms_13 rfl (by first | assumption | rfl) (by first | exact hR _ _ _ rfl | assumption) ?_
  refine wv_aload_n dX7_letByFilms_16 rfl ?_
  refine wv_getR fX7_65 dX7_letByFilms_17 rfl (by first | assumption | rfl) (by first | exact hR _ _ _ rfl | assumption) ?_
  refine wv_v1 oX1_let kX7_265 dX7_letByFilms_20 (by omega) (by first | assumption | rfl) ⟨rfl, by decide⟩ (Nat.le_of_ble_eq_true rfl) (Nat.le_of_ble_eq_true rfl) (cF_let hR9 37 t a g kx rfl (Or.inl rfl) ht (frQ_V ht hq9 hV) hT9 ha (frQ_k hq9 hk)) (fun v8 s8 J8 L8 R8 h8 => ?_)
  obtain ⟨rfl, rfl, rfl, rfl, hf8⟩ := h8
  refine wv_zret rfl (by split <;> rfl) dX7_letByFilms_23 ?_
  exact ⟨rfl, rfl, frQ_tr hq9 ⟨fun _ _ _ => rfl, fun b h1 _ => hf8 b h1, fun _ _ _ => rfl⟩, hT9⟩

def fmU (g : RG) (m : FM) : Prop := ∀ f, f < m.1 → ∀ s, gN g ≤ s → lb (m.2.2.1 f) s = false
theorem knG_some {m : FM} {k : Int32} {x : Nat} {u : Int64} : ∀ {i : Nat}, knG m k i x = some u → ∃ f, f < i ∧ m.2.2.1 f = u ∧ m.2.1 f = x := by
  intro i
  induction i with
  | zero => intro h; simp [knG] at h
  | succ i ih =>
    intro h
    simp only [knG] at h
    by_cases hc : fmC m i k = true ∧ m.2.1 i = x
    · rw [if_pos hc] at h
      exact ⟨i, by omega, by simpa using h, hc.2⟩
    · rw [if_neg hc] at h
      obtain ⟨f, h1, h2⟩ := ih h
      exact ⟨f, by omega, h2⟩
theorem kV_rc {I : wr_TI} {L : wr_TL} {m : FM} {k : Int32} {g : RG} (hU : fmU g m) : kV (rcF I m k 40) (rcL L m k m.1) g (kn m k) := by
  refine ⟨fun x hx => ?_, fun x u hx hu => ⟨?_, ?_⟩, by simp [rcF]; rfl, by simp [rcF]; rfl⟩
  · simp only [rcF, rcI]
    rw [if_neg (by omega), if_neg (by omega), if_pos ⟨trivial, hx⟩]
    rfl
  · simp only [rcL]
    rw [if_pos ⟨trivial, hx⟩]
    have : knG m k m.1 x = some u := hu
    rw [this]
  · obtain ⟨f, h1, h2, -⟩ := knG_some hu
    rw [← h2]
    exact hU f h1
def frR (I : wr_TI) (L : wr_TL) (R : wr_TR) (I' : wr_TI) (L' : wr_TL) (R' : wr_TR) : Prop := (∀ b, b ≠ 30 → b ≠ 35 → b ≠ 37 → b ≠ 38 → I' b = I b) ∧ (∀ k, k ≠ 8 → k ≠ 9 → I' 30 k = I 30 k) ∧ (∀ b, b ≠ 36 → b ≠ 37 → b ≠ 38 → L' b = L b) ∧ ∀ j k, ¬ ((j = 37 ∨ j = 38) ∧ k = 0) → R' j k = R j k
theorem frR_of {I I' : wr_TI} {L L' : wr_TL} {R R' : wr_TR} {m : FM} {k : Int32} (h : frQ (rcF I m k 40) (rcL L m k m.1) R I' L' R') : frR I L R I' L' R' := by
  refine ⟨fun b h1 h2 h3 h4 => ?_, fun j h1 h2 => ?_, fun b h1 h2 h3 => ?_, h.2.2⟩
  · rw [h.1 b h3 h4]
    funext d
    simp [rcF, rcI, h1, h2]
  · rw [h.1 30 (by omega) (by omega)]
    simp [rcF, rcI, h1, h2]
  · rw [h.2.1 b h2 h3]
    funext d
    simp [rcL, h1]
theorem rgV_rc {I : wr_TI} {L : wr_TL} {t : Nat} {g : RG} {m : FM} {k : Int32} (ht : t = 3 ∨ t = 10) (hV : rgV I L t g) : rgV (rcF I m k 40) (rcL L m k m.1) t g := by
  refine rgV_fr hV (fun a h1 h2 h3 => ?_) ?_
  · funext d
    simp only [rcF, rcI]
    rw [if_neg (by omega), if_neg (by omega), if_neg (by omega)]
  · funext d
    simp only [rcL]
    rw [if_neg (by omega)]
set_option maxHeartbeats 4000000 in
set_option maxRecDepth 100000 in
theorem cW_fits {l : Launch} {I : wr_TI} {L : wr_TL} {R : wr_TR} (hR : wr_RC R) (t : Nat) (ht : t = 3 ∨ t = 10) (hto : R 0 1 = t + 1) (g : RG) (hV : rgV I L t g) (m : FM) (tk : Int32) (hM : fmV I L m) (hU : fmU g m) : wr_P l 6 mX7_fits [.ref 0, .int tk] SH I L R (fun v s' I' L' R' => v = some (.int (nI (cn (fun a => fitS g a (kn m tk)) 324))) ∧ s' = SH ∧ frR I L R I' L' R') := by
  have hg := isG_of hR ht
  obtain ⟨-, g0, -⟩ := id hg
  have hVr := rgV_rc (m := m) (k := tk) ht hV
  have hkr := kV_rc (I := I) (L := L) (m := m) (k := tk) hU
  have lp : ∀ (k i : Nat) (J : wr_TI) (K : wr_TL) (K2 : wr_TR), i + k = 324 → frQ (rcF I m tk 40) (rcL L m tk m.1) R J K K2 → wr_V l 6 mX7_fits 12 [some (.ref 0), none, some (.int (nI (cn (fun a => fitS g a (kn m tk)) i))), some (.int (nI i))] [] SH J K K2 0 0 (fun v s' I' L' R' => v = some (.int (nI (cn (fun a => fitS g a (kn m tk)) 324))) ∧ s' = SH ∧ frR I L R I' L' R') := by
    intro k
    induction k with
    | zero =>
      intro i J K K2 hi hf
      obtain rfl : i = 324 := by omega
      refine wv_iload_n dX7_fits_12 rfl ?_
      refine wv_sipush (v := 324) dX7_fits_13 (by decide) ?_
      refine wv_icmp_ge (tgt := 36) dX7_fits_16 (by decide) (fun h16 => ?_) (fun h16 => absurd (nI_le (a := 324) (by omega) (by omega)) h16)
      refine wv_iload_n dX7_fits_36 rfl ?_
      refine wv_iret rfl dX7_fits_37 ?_
      exact ⟨rfl, rfl, frR_of hf⟩
    | succ k ih =>
      intro i J K K2 hi hf
      have hRK : wr_RC K2 := frQ_R hf hR
      have hKt : K2 0 1 = t + 1 := by rw [hf.2.2 _ _ (by omega)]; exact hto
      refine wv_iload_n dX7_fits_12 rfl ?_
      refine wv_sipush (v := 324) dX7_fits_13 (by decide) ?_
      refine wv_icmp_ge (tgt := 36) dX7_fits_16 (by decide) (fun h16 => absurd h16 (nI_ge (b := 324) (by omega) (by omega))) (fun h16 => ?_)
      refine wv_iload_n dX7_fits_19 rfl ?_
      refine wv_aload_n dX7_fits_20 rfl ?_
      refine wv_iload_n dX7_fits_21 rfl ?_
      refine wv_v1 oX7_letByFilms kX7_223 dX7_fits_22 (by omega) (by first | assumption | rfl) ⟨rfl, by decide⟩ (Nat.le_of_ble_eq_true rfl) (Nat.le_of_ble_eq_true rfl) (cW_letBy hRK t ht hKt g (frQ_V ht hf hVr) i (kn m tk) (by omega) (frQ_k hf hkr)) (fun v9 s9 J9 L9 R9 h9 => ?_)
      obtain ⟨rfl, rfl, hf9, hT9⟩ := h9
      refine wv_s1e oX7_oneIf kX7_146 dX7_fits_25 (by omega) (Nat.le_of_ble_eq_true rfl) (Nat.le_of_ble_eq_true rfl) (cW_oneIf _) ?_
      refine wv_iadd dX7_fits_28 ?_
      refine wv_istore_k (i := 2) dX7_fits_29 rfl (by decide) ?_
      refine wv_iinc (v := nI (i + 1)) dX7_fits_30 rfl (nI_1 (i)) (by decide) ?_
      refine wv_goto (tgt := 12) dX7_fits_33 (by decide) ?_
      have e : nI (cn (fun a => fitS g a (kn m tk)) i) + (if fitS g i (kn m tk) = true then 1 else 0) = nI (cn (fun a => fitS g a (kn m tk)) (i + 1)) := by
        simp only [cn]
        rw [← nI_add]
        congr 1
        split <;> rfl
      rw [e]
      exact wv_le (by simp [wr_leq, wr_s1, wr_s2, wr_wide]) (ih (i + 1) J9 L9 R9 (by omega) (frQ_tr hf hf9))
  refine wv_pad 2 ?_
  show wr_V l 6 mX7_fits 0 [some (.ref 0), some (.int tk), none, none] [] SH I L R 0 0 _
  refine wv_aload_n dX7_fits_0 rfl ?_
  refine wv_getR fX7_56 dX7_fits_1 rfl (by first | assumption | rfl) (by first | exact hR _ _ _ rfl | assumption) ?_
  refine wv_iload_n dX7_fits_4 rfl ?_
  refine wv_v1u oX1_recall kX7_220 dX7_fits_5 (by omega) (by first | assumption | rfl) ⟨rfl, by decide⟩ (Nat.le_of_ble_eq_true rfl) (Nat.le_of_ble_eq_true rfl) (cF_recall hR m tk hM) ?_
  refine wv_iconst (v := nI (cn (fun a => fitS g a (kn m tk)) 0)) dX7_fits_8 rfl ?_
  refine wv_istore_k (i := 2) dX7_fits_9 rfl (by decide) ?_
  refine wv_iconst (v := nI 0) dX7_fits_10 rfl ?_
  refine wv_istore_k (i := 3) dX7_fits_11 rfl (by decide) ?_
  exact wv_le (by simp [wr_leq, wr_s1, wr_s2, wr_wide]) (lp 324 0 _ _ _ (by omega) frQ_rf)

def ftG (p : Nat → Bool) (i : Nat) : Nat → Nat → Nat → Int32
  | 0, _, _ => -1
  | r + 1, a, h => if p a = true then (if h = i then nI a else ftG p i r (a + 1) (h + 1)) else ftG p i r (a + 1) h
def aFit (p : Nat → Bool) (x : Int32) : Int32 := if 0 ≤ x ∧ x < 324 then ftG p (tN x) 324 0 0 else -1
set_option maxHeartbeats 4000000 in
set_option maxRecDepth 100000 in
theorem cW_fit {l : Launch} {I : wr_TI} {L : wr_TL} {R : wr_TR} (hR : wr_RC R) (t : Nat) (ht : t = 3 ∨ t = 10) (hto : R 0 1 = t + 1) (g : RG) (hV : rgV I L t g) (m : FM) (tk : Int32) (hM : fmV I L m) (hU : fmU g m) (x : Int32) : wr_P l 6 mX7_fit [.ref 0, .int x, .int tk] SH I L R (fun v s' I' L' R' => v = some (.int (aFit (fun a => fitS g a (kn m tk)) x)) ∧ s' = SH ∧ frR I L R I' L' R') := by
  have hg := isG_of hR ht
  obtain ⟨-, g0, -⟩ := id hg
  have hVr := rgV_rc (m := m) (k := tk) ht hV
  have hkr := kV_rc (I := I) (L := L) (m := m) (k := tk) hU
  have lp : ∀ (x0 : Nat), x0 < 324 → ∀ (k i h : Nat) (J : wr_TI) (K : wr_TL) (K2 : wr_TR), i + k = 324 → h ≤ i → frQ (rcF I m tk 40) (rcL L m tk m.1) R J K K2 → wr_V l 6 mX7_fit 26 [some (.ref 0), some (.int (nI x0)), none, some (.int (nI h)), some (.int (nI i))] [] SH J K K2 0 0 (fun v s' I' L' R' => v = some (.int (ftG (fun a => fitS g a (kn m tk)) x0 k i h)) ∧ s' = SH ∧ frR I L R I' L' R') := by
    intro x0 hx0 k
    induction k with
    | zero =>
      intro i h J K K2 hi hh hf
      refine wv_iload dX7_fit_26 rfl ?_
      refine wv_sipush (v := 324) dX7_fit_28 (by decide) ?_
      refine wv_icmp_ge (tgt := 60) dX7_fit_31 (by decide) (fun h31 => ?_) (fun h31 => absurd (nI_le (a := 324) (by omega) (by omega)) h31)
      refine wv_iconst (v := (-1)) dX7_fit_60 (by decide) ?_
      refine wv_iret rfl dX7_fit_61 ?_
      exact ⟨rfl, rfl, frR_of hf⟩
    | succ k ih =>
      intro i h J K K2 hi hh hf
      have hRK : wr_RC K2 := frQ_R hf hR
      have hKt : K2 0 1 = t + 1 := by rw [hf.2.2 _ _ (by omega)]; exact hto
      refine wv_iload dX7_fit_26 rfl ?_
      refine wv_sipush (v := 324) dX7_fit_28 (by decide) ?_
      refine wv_icmp_ge (tgt := 60) dX7_fit_31 (by decide) (fun h31 => absurd h31 (nI_ge (b := 324) (by omega) (by omega))) (fun h31 => ?_)
      refine wv_aload_n dX7_fit_34 rfl ?_
      refine wv_iload dX7_fit_35 rfl ?_
      refine wv_v1 oX7_letByFilms kX7_223 dX7_fit_37 (by omega) (by first | assumption | rfl) ⟨rfl, by decide⟩ (Nat.le_of_ble_eq_true rfl) (Nat.le_of_ble_eq_true rfl) (cW_letBy hRK t ht hKt g (frQ_V ht hf hVr) i (kn m tk) (by omega) (frQ_k hf hkr)) (fun v9 s9 J9 L9 R9 h9 => ?_)
      obtain ⟨rfl, rfl, hf9, hT9⟩ := h9
      refine wv_if_eq (tgt := 54) dX7_fit_40 (by decide) (fun h40 => ?_) (fun h40 => ?_)
      · rw [if10] at h40
        have hno := h40
        refine wv_iinc (v := nI (i + 1)) dX7_fit_54 rfl (nI_1 (i)) (by decide) ?_
        refine wv_goto (tgt := 26) dX7_fit_57 (by decide) ?_
        first
        | (have _ := hno
           have e : ftG (fun a => fitS g a (kn m tk)) x0 (k + 1) i h = ftG (fun a => fitS g a (kn m tk)) x0 k (i + 1) h := by simp [ftG, h40]
           rw [e]
           exact wv_le (by simp [wr_leq, wr_s1, wr_s2, wr_wide]) (ih (i + 1) h J9 L9 R9 (by omega) (by omega) (frQ_tr hf hf9)))
        | (have e : ftG (fun a => fitS g a (kn m tk)) x0 (k + 1) i h = ftG (fun a => fitS g a (kn m tk)) x0 k (i + 1) (h + 1) := by simp [ftG, hp, hne]
           rw [e]
           exact wv_le (by simp [wr_leq, wr_s1, wr_s2, wr_wide]) (ih (i + 1) (h + 1) J9 L9 R9 (by omega) (by omega) (frQ_tr hf hf9)))
      · rw [if10] at h40
        have hp : fitS g i (kn m tk) = true := Decidable.not_not.mp h40
        refine wv_iload_n dX7_fit_43 rfl ?_
        refine wv_iload_n dX7_fit_44 rfl ?_
        refine wv_icmp_ne (tgt := 51) dX7_fit_45 (by decide) (fun h45 => ?_) (fun h45 => ?_)
        · have hne : ¬ h = x0 := fun z => h45 (by rw [z])
          refine wv_iinc (v := nI (h + 1)) dX7_fit_51 rfl (nI_1 (h)) (by decide) ?_
          refine wv_iinc (v := nI (i + 1)) dX7_fit_54 rfl (nI_1 (i)) (by decide) ?_
          refine wv_goto (tgt := 26) dX7_fit_57 (by decide) ?_
          first
          | (have _ := hno
             have e : ftG (fun a => fitS g a (kn m tk)) x0 (k + 1) i h = ftG (fun a => fitS g a (kn m tk)) x0 k (i + 1) h := by simp [ftG, h40]
             rw [e]
             exact wv_le (by simp [wr_leq, wr_s1, wr_s2, wr_wide]) (ih (i + 1) h J9 L9 R9 (by omega) (by omega) (frQ_tr hf hf9)))
          | (have e : ftG (fun a => fitS g a (kn m tk)) x0 (k + 1) i h = ftG (fun a => fitS g a (kn m tk)) x0 k (i + 1) (h + 1) := by simp [ftG, hp, hne]
             rw [e]
             exact wv_le (by simp [wr_leq, wr_s1, wr_s2, wr_wide]) (ih (i + 1) (h + 1) J9 L9 R9 (by omega) (by omega) (frQ_tr hf hf9)))
        · have heq : h = x0 := (nI_eq (by omega) (by omega)).mp h45
          refine wv_iload dX7_fit_48 rfl ?_
          refine wv_iret rfl dX7_fit_50 ?_
          refine ⟨?_, rfl, frR_of (frQ_tr hf hf9)⟩
          simp [ftG, hp, heq]
  refine wv_pad 2 ?_
  show wr_V l 6 mX7_fit 0 [some (.ref 0), some (.int x), some (.int tk), none, none] [] SH I L R 0 0 _
  refine wv_iload_n dX7_fit_0 rfl ?_
  refine wv_if_lt (tgt := 11) dX7_fit_1 (by decide) (fun h1 => ?_) (fun h1 => ?_)
  · refine wv_iconst (v := (-1)) dX7_fit_11 (by decide) ?_
    refine wv_iret rfl dX7_fit_12 ?_
    refine ⟨?_, rfl, ⟨fun _ _ _ _ _ => rfl, fun _ _ _ => rfl, fun _ _ _ _ => rfl, fun _ _ _ => rfl⟩⟩
    unfold aFit
    rw [if_neg]
    grind
  · refine wv_iload_n dX7_fit_4 rfl ?_
    refine wv_sipush (v := 324) dX7_fit_5 (by decide) ?_
    refine wv_icmp_lt (tgt := 13) dX7_fit_8 (by decide) (fun h8 => ?_) (fun h8 => ?_)
    · have hx : 0 ≤ x ∧ x < 324 := ⟨Int32.not_lt.mp h1, h8⟩
      obtain ⟨x0, hx0, rfl⟩ := ix_of (n := 324) hx (by omega)
      refine wv_aload_n dX7_fit_13 rfl ?_
      refine wv_getR fX7_56 dX7_fit_14 rfl (by first | assumption | rfl) (by first | exact hR _ _ _ rfl | assumption) ?_
      refine wv_iload_n dX7_fit_17 rfl ?_
      refine wv_v1u oX1_recall kX7_220 dX7_fit_18 (by omega) (by first | assumption | rfl) ⟨rfl, by decide⟩ (Nat.le_of_ble_eq_true rfl) (Nat.le_of_ble_eq_true rfl) (cF_recall hR m tk hM) ?_
      refine wv_iconst (v := nI 0) dX7_fit_21 rfl ?_
      refine wv_istore_k (i := 3) dX7_fit_22 rfl (by decide) ?_
      refine wv_iconst (v := nI 0) dX7_fit_23 rfl ?_
      refine wv_istore dX7_fit_24 (by decide) ?_
      have := lp x0 hx0 324 0 0 _ _ _ (by omega) (by omega) frQ_rf
      unfold aFit
      rw [if_pos hx, tN_nI (by omega)]
      exact wv_le (by simp [wr_leq, wr_s1, wr_s2, wr_wide]) (this)
    · refine wv_iconst (v := (-1)) dX7_fit_11 (by decide) ?_
      refine wv_iret rfl dX7_fit_12 ?_
      refine ⟨?_, rfl, ⟨fun _ _ _ _ _ => rfl, fun _ _ _ => rfl, fun _ _ _ _ => rfl, fun _ _ _ => rfl⟩⟩
      unfold aFit
      rw [if_neg]
      grind

