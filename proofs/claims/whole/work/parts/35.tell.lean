/-! telling, taking back, later -/
def tlM (m : FM) (x : Nat) (u : Int64) (tm : Int32) : FM := (m.1 + 1, (fun f => if f = m.1 then x else m.2.1 f), (fun f => if f = m.1 then u else m.2.2.1 f), (fun f => if f = m.1 then tm else m.2.2.2.1 f), (fun f => if f = m.1 then -1 else m.2.2.2.2 f))
def tbM (m : FM) (a : Nat) (tm : Int32) : FM := (m.1, m.2.1, m.2.2.1, m.2.2.2.1, (fun f => if f = a then tm else m.2.2.2.2 f))
/-- only the films change -/
def frT (I : wr_TI) (L : wr_TL) (I' : wr_TI) (L' : wr_TL) : Prop := (∀ b, b ≠ 30 → b ≠ 31 → b ≠ 33 → b ≠ 34 → I' b = I b) ∧ (∀ k, k ≠ 6 → k ≠ 7 → I' 30 k = I 30 k) ∧ ∀ b, b ≠ 32 → L' b = L b
theorem frT_rf {I : wr_TI} {L : wr_TL} : frT I L I L := ⟨fun _ _ _ _ _ => rfl, fun _ _ _ => rfl, fun _ _ => rfl⟩
theorem frT_V {I I' : wr_TI} {L L' : wr_TL} {t : Nat} {g : RG} (ht : t = 3 ∨ t = 10) (h : frT I L I' L') (hV : rgV I L t g) : rgV I' L' t g := rgV_fr hV (fun a h1 h2 h3 => h.1 a (by omega) (by omega) (by omega) (by omega)) (h.2.2 t (by omega))
def uIn (g : RG) (u : Int64) : Bool := decide (cn (fun s => !decide (s < gN g) && lb u s) 64 = 0)
theorem uIn_iff {g : RG} (hn : gN g ≤ 40) {u : Int64} : u &&& (((1 <<< ((nI (gN g)).toInt64 &&& 63)) - 1) ^^^ (-1)) = 0 ↔ uIn g u = true := by
  unfold uIn
  rw [decide_eq_true_iff, cn_pos]
  constructor
  · intro h s hs
    have e : lb (u &&& (((1 <<< ((nI (gN g)).toInt64 &&& 63)) - 1) ^^^ (-1))) s = false := by rw [h, lb_0]
    rw [lb_and, lb_not _ hs, lb_every _ (by omega)] at e
    cases hz : lb u s <;> simp_all
  · intro h
    apply lb_ext
    intro s hs
    have := h s hs
    rw [lb_and, lb_not _ hs, lb_every _ (by omega), lb_0]
    cases hz : lb u s <;> simp_all
theorem uIn_U {g : RG} {u : Int64} (h : uIn g u = true) : ∀ s, gN g ≤ s → lb u s = false := by
  unfold uIn at h
  rw [decide_eq_true_iff, cn_pos] at h
  intro s hs
  by_cases h64 : s < 64
  · have := h s h64
    have hz : ¬ s < gN g := by omega
    simpa [hz] using this
  · exact lb_big (by omega)
def aFilm (g : RG) (m : FM) (tm : Int32) (x : Int32) (u : Int64) : Int32 × FM := if (0 ≤ x ∧ x < 40) ∧ uIn g u = true ∧ m.1 < 60 then (nI m.1, tlM m (tN x) u tm) else (-1, m)
def aUntell (m : FM) (tm : Int32) (x : Int32) : Int32 × FM := if (0 ≤ x ∧ x < nI m.1) ∧ m.2.2.2.2 (tN x) = -1 then (1, tbM m (tN x) tm) else (0, m)
def aLater (tm x : Int32) : Int32 × Int32 := if 0 ≤ x ∧ x ≤ 1000 ∧ x ≤ 100000 - tm then (tm + x, tm + x) else (-1, tm)
set_option maxHeartbeats 4000000 in
set_option maxRecDepth 100000 in
theorem cF_tell {l : Launch} {I : wr_TI} {L : wr_TL} {R : wr_TR} (hR : wr_RC R) (m : FM) (x : Nat) (u : Int64) (tm : Int32) (hM : fmV I L m) (hx : x < 40) (htm : I 30 7 = tm) : wr_P l 0 mX1_tell [.ref 30, .int (nI x), .long u] SH I L R (fun v s' I' L' R' => v = some (.int (if m.1 < 60 then nI m.1 else -1)) ∧ s' = SH ∧ R' = R ∧ fmV I' L' (if m.1 < 60 then tlM m x u tm else m) ∧ I' 30 7 = tm ∧ frT I L I' L') := by
  obtain ⟨m0, m1, m2⟩ := id hM
  by_cases hm : m.1 < 60
  · have hb : vp_in (nI m.1) 60 := vp_in_nI hm (by decide)
    refine wv_pad 0 ?_
    show wr_V l 0 mX1_tell 0 [some (.ref 30), some (.int (nI x)), some (.long u), none] [] SH I L R 0 0 _
    refine wv_aload_n dX1_tell_0 rfl ?_
    refine wv_getI fX1_39 dX1_tell_1 rfl (by first | assumption | rfl) ?_
    refine wv_if_lt (tgt := 16) dX1_tell_4 (by decide) (fun h4 => absurd h4 (by rw [m0]; exact nI_pos (by omega))) (fun h4 => ?_)
    refine wv_aload_n dX1_tell_7 rfl ?_
    refine wv_getI fX1_39 dX1_tell_8 rfl (by first | assumption | rfl) ?_
    refine wv_bipush (v := 60) dX1_tell_11 (by decide) ?_
    refine wv_icmp_lt (tgt := 18) dX1_tell_13 (by decide) (fun h13 => ?_) (fun h13 => absurd (by rw [m0]; exact nI_lt (b := 60) hm (by omega)) h13)
    refine wv_aload_n dX1_tell_18 rfl ?_
    refine wv_getR fX1_9 dX1_tell_19 rfl (by first | assumption | rfl) (by first | exact hR _ _ _ rfl | assumption) ?_
    refine wv_aload_n dX1_tell_22 rfl ?_
    refine wv_getI fX1_39 dX1_tell_23 rfl (by first | assumption | rfl) ?_
    refine wv_iload_n dX1_tell_26 rfl ?_
    refine wv_iast dX1_tell_27 (by first | assumption | rfl) (by rw [m0]; exact hb) ?_
    refine wv_aload_n dX1_tell_28 rfl ?_
    refine wv_getR fX1_15 dX1_tell_29 rfl (by first | assumption | rfl) (by first | exact hR _ _ _ rfl | assumption) ?_
    refine wv_aload_n dX1_tell_32 rfl ?_
    refine wv_getI fX1_39 dX1_tell_33 rfl (by first | assumption | rfl) ?_
    refine wv_lload_n dX1_tell_36 rfl ?_
    refine wv_last dX1_tell_37 (by first | assumption | rfl) (by simp only [wr_uI]; rw [if_neg (by omega), m0]; exact hb) ?_
    refine wv_aload_n dX1_tell_38 rfl ?_
    refine wv_getR fX1_19 dX1_tell_39 rfl (by first | assumption | rfl) (by first | exact hR _ _ _ rfl | assumption) ?_
    refine wv_aload_n dX1_tell_42 rfl ?_
    refine wv_getI fX1_39 dX1_tell_43 rfl (by first | assumption | rfl) ?_
    refine wv_aload_n dX1_tell_46 rfl ?_
    refine wv_getI fX1_42 dX1_tell_47 rfl (by first | assumption | rfl) ?_
    refine wv_iast dX1_tell_50 (by first | assumption | rfl) (by simp only [wr_uI]; rw [if_neg (by omega), m0]; exact hb) ?_
    refine wv_aload_n dX1_tell_51 rfl ?_
    refine wv_getR fX1_22 dX1_tell_52 rfl (by first | assumption | rfl) (by first | exact hR _ _ _ rfl | assumption) ?_
    refine wv_aload_n dX1_tell_55 rfl ?_
    refine wv_getI fX1_39 dX1_tell_56 rfl (by first | assumption | rfl) ?_
    refine wv_iconst (v := (-1)) dX1_tell_59 (by decide) ?_
    refine wv_iast dX1_tell_60 (by first | assumption | rfl) (by show vp_in (I 30 6) 60; rw [m0]; exact hb) ?_
    refine wv_aload_n dX1_tell_61 rfl ?_
    refine wv_dup dX1_tell_62 rfl ?_
    refine wv_getI fX1_39 dX1_tell_63 rfl (by first | assumption | rfl) ?_
    refine wv_iconst (v := 1) dX1_tell_66 (by decide) ?_
    refine wv_iadd dX1_tell_67 ?_
    refine wv_putI fX1_39 dX1_tell_68 rfl rfl rfl rfl (by first | assumption | rfl) ?_
    refine wv_aload_n dX1_tell_71 rfl ?_
    refine wv_getI fX1_39 dX1_tell_72 rfl (by first | assumption | rfl) ?_
    refine wv_iconst (v := 1) dX1_tell_75 (by decide) ?_
    refine wv_isub dX1_tell_76 ?_
    refine wv_iret rfl dX1_tell_77 ?_
    refine ⟨by rw [if_pos hm]; simp [wr_uI, m0], rfl, rfl, ?_, ?_, ?_, ?_, ?_⟩
    · rw [if_pos hm]
      refine ⟨?_, ?_, fun f hf => ?_⟩
      · simp [wr_uI, m0, tlM]
        exact nI_1 _
      · simp only [tlM]; omega
      · simp only [tlM] at hf
        by_cases hfe : f = m.1
        · subst hfe
          simp [wr_uI, wr_uL, m0, tlM, nI_clamp (show m.1 < 2 ^ 31 by omega), hx, htm]
        · have := m2 f (by omega)
          simpa [wr_uI, wr_uL, m0, tlM, nI_clamp (show m.1 < 2 ^ 31 by omega), hfe] using this
    · simp [wr_uI, htm]
    · intro b h1 h2 h3 h4
      funext d
      simp [wr_uI, h1, h2, h3, h4]
    · intro d h1 h2
      simp [wr_uI, h1]
    · intro b h1
      funext d
      simp [wr_uL, h1]
  · have hm60 : m.1 = 60 := by omega
    refine wv_pad 0 ?_
    show wr_V l 0 mX1_tell 0 [some (.ref 30), some (.int (nI x)), some (.long u), none] [] SH I L R 0 0 _
    refine wv_aload_n dX1_tell_0 rfl ?_
    refine wv_getI fX1_39 dX1_tell_1 rfl (by first | assumption | rfl) ?_
    refine wv_if_lt (tgt := 16) dX1_tell_4 (by decide) (fun h4 => absurd h4 (by rw [m0]; exact nI_pos (by omega))) (fun h4 => ?_)
    refine wv_aload_n dX1_tell_7 rfl ?_
    refine wv_getI fX1_39 dX1_tell_8 rfl (by first | assumption | rfl) ?_
    refine wv_bipush (v := 60) dX1_tell_11 (by decide) ?_
    refine wv_icmp_lt (tgt := 18) dX1_tell_13 (by decide) (fun h13 => absurd h13 (by rw [m0, hm60]; decide)) (fun h13 => ?_)
    refine wv_iconst (v := (-1)) dX1_tell_16 (by decide) ?_
    refine wv_iret rfl dX1_tell_17 ?_
    exact ⟨by rw [if_neg hm], rfl, rfl, by rw [if_neg hm]; exact hM, htm, frT_rf⟩

set_option maxHeartbeats 4000000 in
set_option maxRecDepth 100000 in
theorem cW_film {l : Launch} {I : wr_TI} {L : wr_TL} {R : wr_TR} (hR : wr_RC R) (t : Nat) (ht : t = 3 ∨ t = 10) (hto : R 0 1 = t + 1) (g : RG) (hV : rgV I L t g) (m : FM) (tm : Int32) (hM : fmV I L m) (htm : I 30 7 = tm) (x : Int32) (u : Int64) : wr_P l 1 mX7_film [.ref 0, .int x, .long u] SH I L R (fun v s' I' L' R' => v = some (.int (aFilm g m tm x u).1) ∧ s' = SH ∧ R' = R ∧ fmV I' L' (aFilm g m tm x u).2 ∧ I' 30 7 = tm ∧ frT I L I' L') := by
  have hg := isG_of hR ht
  obtain ⟨-, g0, -⟩ := id hg
  have hn := hV.1
  have hn6 := hV.2.1
  have hn40 := hV.2.2.1
  refine wv_pad 0 ?_
  show wr_V l 1 mX7_film 0 [some (.ref 0), some (.int x), some (.long u), none] [] SH I L R 0 0 _
  refine wv_iload_n dX7_film_0 rfl ?_
  refine wv_if_lt (tgt := 28) dX7_film_1 (by decide) (fun h1 => ?_) (fun h1 => ?_)
  · refine wv_iconst (v := (-1)) dX7_film_28 (by decide) ?_
    refine wv_iret rfl dX7_film_29 ?_
    have e : aFilm g m tm x u = (-1, m) := by unfold aFilm; rw [if_neg]; grind
    rw [e]
    exact ⟨rfl, rfl, rfl, hM, htm, frT_rf⟩
  · refine wv_iload_n dX7_film_4 rfl ?_
    refine wv_bipush (v := 40) dX7_film_5 (by decide) ?_
    refine wv_icmp_ge (tgt := 28) dX7_film_7 (by decide) (fun h7 => ?_) (fun h7 => ?_)
    · refine wv_iconst (v := (-1)) dX7_film_28 (by decide) ?_
      refine wv_iret rfl dX7_film_29 ?_
      have e : aFilm g m tm x u = (-1, m) := by unfold aFilm; rw [if_neg]; grind
      rw [e]
      exact ⟨rfl, rfl, rfl, hM, htm, frT_rf⟩
    · refine wv_lload_n dX7_film_10 rfl ?_
      refine wv_aload_n dX7_film_11 rfl ?_
      refine wv_getR fX7_19 dX7_film_12 rfl (by first | assumption | rfl) (by first | exact hR _ _ _ rfl | assumption) ?_
      refine wv_v0e oX5_everySeat kX7_205 dX7_film_15 (by omega) (by first | assumption | rfl) ⟨rfl, by decide⟩ (Nat.le_of_ble_eq_true rfl) (Nat.le_of_ble_eq_true rfl) (cR_every t g0) ?_
      refine wv_ldc2_w nX7_188 dX7_film_18 ?_
      refine wv_lxor dX7_film_21 ?_
      refine wv_land dX7_film_22 ?_
      refine wv_lconst (v := 0) dX7_film_23 (by decide) ?_
      refine wv_lcmp dX7_film_24 ?_
      refine wv_if_eq (tgt := 30) dX7_film_25 (by decide) (fun h25 => ?_) (fun h25 => ?_)
      · rw [lg_cmp_eq, hn, uIn_iff hn40] at h25
        have hx : 0 ≤ x ∧ x < 40 := ⟨Int32.not_lt.mp h1, Int32.not_le.mp h7⟩
        obtain ⟨a, ha, rfl⟩ := ix_of (n := 40) hx (by omega)
        refine wv_aload_n dX7_film_30 rfl ?_
        refine wv_getR fX7_56 dX7_film_31 rfl (by first | assumption | rfl) (by first | exact hR _ _ _ rfl | assumption) ?_
        refine wv_iload_n dX7_film_34 rfl ?_
        refine wv_lload_n dX7_film_35 rfl ?_
        refine wv_v2 oX1_tell kX7_209 dX7_film_36 (by omega) (by first | assumption | rfl) ⟨rfl, by decide⟩ (Nat.le_of_ble_eq_true rfl) (Nat.le_of_ble_eq_true rfl) (cF_tell hR m a u tm hM ha htm) (fun v9 s9 J9 L9 R9 h9 => ?_)
        obtain ⟨rfl, rfl, rfl, hM9, ht9, hf9⟩ := h9
        refine wv_iret rfl dX7_film_39 ?_
        have e : aFilm g m tm (nI a) u = (if m.1 < 60 then nI m.1 else -1, if m.1 < 60 then tlM m a u tm else m) := by
          unfold aFilm
          rw [tN_nI (by omega)]
          by_cases hm : m.1 < 60
          · rw [if_pos ⟨hx, h25, hm⟩, if_pos hm, if_pos hm]
          · rw [if_neg (fun z => hm z.2.2), if_neg hm, if_neg hm]
        rw [e]
        exact ⟨rfl, rfl, rfl, hM9, ht9, hf9⟩
      · rw [lg_cmp_eq, hn, uIn_iff hn40] at h25
        refine wv_iconst (v := (-1)) dX7_film_28 (by decide) ?_
        refine wv_iret rfl dX7_film_29 ?_
        have e : aFilm g m tm x u = (-1, m) := by unfold aFilm; rw [if_neg]; grind
        rw [e]
        exact ⟨rfl, rfl, rfl, hM, htm, frT_rf⟩

set_option maxHeartbeats 4000000 in
set_option maxRecDepth 100000 in
theorem cF_takeB {l : Launch} {I : wr_TI} {L : wr_TL} {R : wr_TR} (hR : wr_RC R) (m : FM) (tm : Int32) (hM : fmV I L m) (htm : I 30 7 = tm) (x : Int32) : wr_P l 0 mX1_takeBack [.ref 30, .int x] SH I L R (fun v s' I' L' R' => v = some (.int (aUntell m tm x).1) ∧ s' = SH ∧ R' = R ∧ fmV I' L' (aUntell m tm x).2 ∧ I' 30 7 = tm ∧ frT I L I' L') := by
  obtain ⟨m0, m1, m2⟩ := id hM
  by_cases hx : 0 ≤ x ∧ x < nI m.1
  · obtain ⟨a, ha, rfl⟩ := ix_of hx (by omega)
    obtain ⟨f1, f2, f3, f4, f5⟩ := m2 a ha
    refine wv_pad 0 ?_
    show wr_V l 0 mX1_takeBack 0 [some (.ref 30), some (.int (nI a))] [] SH I L R 0 0 _
    refine wv_iload_n dX1_takeBack_0 rfl ?_
    refine wv_if_lt (tgt := 28) dX1_takeBack_1 (by decide) (fun h1 => absurd h1 (nI_pos (by omega))) (fun h1 => ?_)
    refine wv_iload_n dX1_takeBack_4 rfl ?_
    refine wv_aload_n dX1_takeBack_5 rfl ?_
    refine wv_getI fX1_39 dX1_takeBack_6 rfl (by first | assumption | rfl) ?_
    refine wv_icmp_ge (tgt := 28) dX1_takeBack_9 (by decide) (fun h9 => absurd h9 (by rw [m0]; exact nI_ge ha (by omega))) (fun h9 => ?_)
    refine wv_iload_n dX1_takeBack_12 rfl ?_
    refine wv_bipush (v := 60) dX1_takeBack_13 (by decide) ?_
    refine wv_icmp_ge (tgt := 28) dX1_takeBack_15 (by decide) (fun h15 => absurd h15 (nI_ge (b := 60) (by omega) (by omega))) (fun h15 => ?_)
    refine wv_aload_n dX1_takeBack_18 rfl ?_
    refine wv_getR fX1_22 dX1_takeBack_19 rfl (by first | assumption | rfl) (by first | exact hR _ _ _ rfl | assumption) ?_
    refine wv_iload_n dX1_takeBack_22 rfl ?_
    refine wv_ialdN dX1_takeBack_23 (by first | assumption | rfl) (by omega) (by decide) ?_
    refine wv_iconst (v := (-1)) dX1_takeBack_24 (by decide) ?_
    refine wv_icmp_eq (tgt := 30) dX1_takeBack_25 (by decide) (fun h25 => ?_) (fun h25 => ?_)
    · rw [f5] at h25
      refine wv_aload_n dX1_takeBack_30 rfl ?_
      refine wv_getR fX1_22 dX1_takeBack_31 rfl (by first | assumption | rfl) (by first | exact hR _ _ _ rfl | assumption) ?_
      refine wv_iload_n dX1_takeBack_34 rfl ?_
      refine wv_aload_n dX1_takeBack_35 rfl ?_
      refine wv_getI fX1_42 dX1_takeBack_36 rfl (by first | assumption | rfl) ?_
      refine wv_iastN dX1_takeBack_39 (by first | assumption | rfl) (by omega) (by decide) ?_
      refine wv_iconst (v := 1) dX1_takeBack_40 (by decide) ?_
      refine wv_zret rfl rfl dX1_takeBack_41 ?_
      have e : aUntell m tm (nI a) = (1, tbM m a tm) := by unfold aUntell; rw [tN_nI (by omega), if_pos ⟨hx, h25⟩]
      rw [e]
      refine ⟨rfl, rfl, rfl, ⟨?_, ?_, fun f hf => ?_⟩, ?_, ?_, ?_, ?_⟩
      · simpa [wr_uI, tbM] using m0
      · exact m1
      · have := m2 f hf
        by_cases hfe : f = a
        · subst hfe
          simpa [wr_uI, tbM, htm] using ⟨this.1, this.2.1, this.2.2.1, this.2.2.2.1⟩
        · simpa [wr_uI, tbM, hfe] using this
      · simp [wr_uI, htm]
      · intro b h1 h2 h3 h4
        funext d
        simp [wr_uI, h4]
      · intro d h1 h2
        simp [wr_uI]
      · intro b h1
        rfl
    · rw [f5] at h25
      refine wv_iconst (v := 0) dX1_takeBack_28 (by decide) ?_
      refine wv_zret rfl rfl dX1_takeBack_29 ?_
      have e : aUntell m tm (nI a) = (0, m) := by unfold aUntell; rw [tN_nI (by omega), if_neg (fun z => h25 z.2)]
      rw [e]
      exact ⟨rfl, rfl, rfl, hM, htm, frT_rf⟩
  · have e : aUntell m tm x = (0, m) := by unfold aUntell; rw [if_neg (fun z => hx z.1)]
    rw [e]
    refine wv_pad 0 ?_
    show wr_V l 0 mX1_takeBack 0 [some (.ref 30), some (.int x)] [] SH I L R 0 0 _
    refine wv_iload_n dX1_takeBack_0 rfl ?_
    refine wv_if_lt (tgt := 28) dX1_takeBack_1 (by decide) (fun h1 => ?_) (fun h1 => ?_)
    · refine wv_iconst (v := 0) dX1_takeBack_28 (by decide) ?_
      refine wv_zret rfl rfl dX1_takeBack_29 ?_
      exact ⟨rfl, rfl, rfl, hM, htm, frT_rf⟩
    · refine wv_iload_n dX1_takeBack_4 rfl ?_
      refine wv_aload_n dX1_takeBack_5 rfl ?_
      refine wv_getI fX1_39 dX1_takeBack_6 rfl (by first | assumption | rfl) ?_
      refine wv_icmp_ge (tgt := 28) dX1_takeBack_9 (by decide) (fun h9 => ?_) (fun h9 => ?_)
      · rw [m0] at h9
        refine wv_iconst (v := 0) dX1_takeBack_28 (by decide) ?_
        refine wv_zret rfl rfl dX1_takeBack_29 ?_
        exact ⟨rfl, rfl, rfl, hM, htm, frT_rf⟩
      · rw [m0] at h9
        exact absurd ⟨Int32.not_lt.mp h1, Int32.not_le.mp h9⟩ hx

set_option maxHeartbeats 4000000 in
set_option maxRecDepth 100000 in
theorem cW_untell {l : Launch} {I : wr_TI} {L : wr_TL} {R : wr_TR} (hR : wr_RC R) (m : FM) (tm : Int32) (hM : fmV I L m) (htm : I 30 7 = tm) (x : Int32) : wr_P l 1 mX7_untell [.ref 0, .int x] SH I L R (fun v s' I' L' R' => v = some (.int (aUntell m tm x).1) ∧ s' = SH ∧ R' = R ∧ fmV I' L' (aUntell m tm x).2 ∧ I' 30 7 = tm ∧ frT I L I' L') := by
  have hz : narrow .boolean (.int (aUntell m tm x).1) = .int (aUntell m tm x).1 := by unfold aUntell; split <;> (simp only; rfl)
  refine wv_pad 0 ?_
  show wr_V l 1 mX7_untell 0 [some (.ref 0), some (.int x)] [] SH I L R 0 0 _
  refine wv_aload_n dX7_untell_0 rfl ?_
  refine wv_getR fX7_56 dX7_untell_1 rfl (by first | assumption | rfl) (by first | exact hR _ _ _ rfl | assumption) ?_
  refine wv_iload_n dX7_untell_4 rfl ?_
  refine wv_v1 oX1_takeBack kX7_213 dX7_untell_5 (by omega) (by first | assumption | rfl) ⟨rfl, by decide⟩ (Nat.le_of_ble_eq_true rfl) (Nat.le_of_ble_eq_true rfl) (cF_takeB hR m tm hM htm x) (fun v9 s9 J9 L9 R9 h9 => ?_)
  obtain ⟨rfl, rfl, rfl, hM9, ht9, hf9⟩ := h9
  refine wv_zret rfl hz dX7_untell_8 ?_
  exact ⟨rfl, rfl, rfl, hM9, ht9, hf9⟩

set_option maxHeartbeats 4000000 in
set_option maxRecDepth 100000 in
theorem cW_later {l : Launch} {I : wr_TI} {L : wr_TL} {R : wr_TR} (hR : wr_RC R) (m : FM) (tm : Int32) (hM : fmV I L m) (htm : I 30 7 = tm) (x : Int32) : wr_P l 0 mX7_later [.ref 0, .int x] SH I L R (fun v s' I' L' R' => v = some (.int (aLater tm x).1) ∧ s' = SH ∧ R' = R ∧ fmV I' L' m ∧ I' 30 7 = (aLater tm x).2 ∧ frT I L I' L') := by
  obtain ⟨m0, m1, m2⟩ := id hM
  refine wv_pad 0 ?_
  show wr_V l 0 mX7_later 0 [some (.ref 0), some (.int x)] [] SH I L R 0 0 _
  refine wv_iload_n dX7_later_0 rfl ?_
  refine wv_if_lt (tgt := 25) dX7_later_1 (by decide) (fun h1 => ?_) (fun h1 => ?_)
  · refine wv_iconst (v := (-1)) dX7_later_25 (by decide) ?_
    refine wv_iret rfl dX7_later_26 ?_
    have e : aLater tm x = (-1, tm) := by unfold aLater; rw [if_neg]; grind
    rw [e]
    exact ⟨rfl, rfl, rfl, hM, htm, frT_rf⟩
  · refine wv_iload_n dX7_later_4 rfl ?_
    refine wv_sipush (v := 1000) dX7_later_5 (by decide) ?_
    refine wv_icmp_gt (tgt := 25) dX7_later_8 (by decide) (fun h8 => ?_) (fun h8 => ?_)
    · refine wv_iconst (v := (-1)) dX7_later_25 (by decide) ?_
      refine wv_iret rfl dX7_later_26 ?_
      have e : aLater tm x = (-1, tm) := by unfold aLater; rw [if_neg]; grind
      rw [e]
      exact ⟨rfl, rfl, rfl, hM, htm, frT_rf⟩
    · refine wv_iload_n dX7_later_11 rfl ?_
      refine wv_ldc nX7_216 dX7_later_12 ?_
      refine wv_aload_n dX7_later_14 rfl ?_
      refine wv_getR fX7_56 dX7_later_15 rfl (by first | assumption | rfl) (by first | exact hR _ _ _ rfl | assumption) ?_
      refine wv_getI fX7_217 dX7_later_18 rfl (by first | assumption | rfl) ?_
      refine wv_isub dX7_later_21 ?_
      refine wv_icmp_le (tgt := 27) dX7_later_22 (by decide) (fun h22 => ?_) (fun h22 => ?_)
      · rw [htm] at h22
        refine wv_aload_n dX7_later_27 rfl ?_
        refine wv_getR fX7_56 dX7_later_28 rfl rfl (by first | exact hR _ _ _ rfl | assumption) ?_
        refine wv_dup dX7_later_31 rfl ?_
        refine wv_getI fX7_217 dX7_later_32 rfl rfl ?_
        refine wv_iload_n dX7_later_35 rfl ?_
        refine wv_iadd dX7_later_36 ?_
        refine wv_putI fX7_217 dX7_later_37 rfl rfl rfl rfl rfl ?_
        refine wv_aload_n dX7_later_40 rfl ?_
        refine wv_getR fX7_56 dX7_later_41 rfl rfl (by first | exact hR _ _ _ rfl | assumption) ?_
        refine wv_getI fX7_217 dX7_later_44 rfl rfl ?_
        refine wv_iret rfl dX7_later_47 ?_
        have e : aLater tm x = (tm + x, tm + x) := by unfold aLater; rw [if_pos]; grind
        rw [e]
        refine ⟨by simp [wr_uI, htm], rfl, rfl, ⟨by simpa [wr_uI] using m0, m1, fun f hf => by simpa [wr_uI] using m2 f hf⟩, by simp [wr_uI, htm], ?_, ?_, ?_⟩
        · intro b h1 h2 h3 h4
          funext d
          simp [wr_uI, h1]
        · intro d h1 h2
          simp [wr_uI, h2]
        · intro b h1
          rfl
      · rw [htm] at h22
        refine wv_iconst (v := (-1)) dX7_later_25 (by decide) ?_
        refine wv_iret rfl dX7_later_26 ?_
        have e : aLater tm x = (-1, tm) := by unfold aLater; rw [if_neg]; grind
        rw [e]
        exact ⟨rfl, rfl, rfl, hM, htm, frT_rf⟩

