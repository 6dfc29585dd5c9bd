/-! plain laws -/
def pm (g : RG) (a : Nat) : Nat := min (a / 36 % 3 + 1) ((gN g - 1) / 2)
def e1 (ps : Nat → Int32) : Nat → Bool := fun v => decide (ps v = 1)
def pcn (g : RG) (a : Nat) (ps : Nat → Int32) (s : Nat) : Nat := (if a / 108 = 1 then 0 else sL (e1 ps) (gN g) s (pm g a)) + (if a / 108 = 0 then 0 else sR (e1 ps) (gN g) s (pm g a))
def pst (g : RG) (a : Nat) (ps : Nat → Int32) : Nat → Int32 := fun s => if s < gN g then (if ps s = 0 ∧ gD g s = false ∧ a / 12 % 3 + 1 ≤ pcn g a ps s then 1 else beh (nI (a / 4 % 3 + 1)) (nI (a % 4)) (ps s)) else ps s
def ps0 (g : RG) (u : Nat → Bool) : Nat → Int32 := fun s => if gG g s = true then 40 else if u s = true then 1 else 0
def plT (I : wr_TI) (R : wr_TR) (q t a : Nat) (g : RG) : Prop := R q 0 = t + 1 ∧ I q 1 = (if a / 108 = 1 then 0 else 1) ∧ I q 2 = (if a / 108 = 0 then 0 else 1) ∧ I q 3 = nI (pm g a) ∧ I q 4 = nI (a / 12 % 3 + 1) ∧ I q 5 = nI (a / 4 % 3 + 1) ∧ I q 6 = nI (a % 4)
/-- the six rows of bits -/
def plB (L : wr_TL) (q n : Nat) (ps : Nat → Int32) : Prop := ∀ s, s < 64 → lb (L q 7) s = (decide (s < n) && decide (ps s = 1)) ∧ lb (L q 8) s = (decide (s < n) && decide (ps s = 2)) ∧ lb (L q 9) s = (decide (s < n) && decide (ps s = 3)) ∧ lb (L q 10) s = (decide (s < n) && decide (ps s = 11)) ∧ lb (L q 11) s = (decide (s < n) && decide (ps s = 12)) ∧ lb (L q 12) s = (decide (s < n) && decide (ps s = 13))
def pvl (g : RG) (u r : Nat) (ps : Nat → Int32) : Prop := ∀ s, s < gN g → (gG g s = true → ps s = 40) ∧ (gG g s = false → ps s = 0 ∨ (1 ≤ ps s ∧ ps s ≤ nI u) ∨ (11 ≤ ps s ∧ ps s ≤ nI (10 + r)))
set_option maxHeartbeats 4000000 in
set_option maxRecDepth 100000 in
theorem cP_begin {l : Launch} {I : wr_TI} {L : wr_TL} {R : wr_TR} (q : Nat) (x : Int64) (hs : SH[q]? = some (.inr 3)) : wr_E l 0 mX3_begin [.ref q, .long x] SH I L R none I (fun a b => if a = q ∧ b = 7 then x else if a = q ∧ 8 ≤ b ∧ b ≤ 12 then 0 else L a b) R := by
  refine wv_pad 0 ?_
  show wr_V l 0 mX3_begin 0 [some (.ref q), some (.long x), none] [] SH I L R 0 0 _
  refine wv_aload_n dX3_begin_0 rfl ?_
  refine wv_lload_n dX3_begin_1 rfl ?_
  refine wv_putL fX3_39 dX3_begin_2 rfl rfl rfl rfl (by first | assumption | rfl) ?_
  refine wv_aload_n dX3_begin_5 rfl ?_
  refine wv_lconst (v := 0) dX3_begin_6 (by decide) ?_
  refine wv_putL fX3_43 dX3_begin_7 rfl rfl rfl rfl (by first | assumption | rfl) ?_
  refine wv_aload_n dX3_begin_10 rfl ?_
  refine wv_lconst (v := 0) dX3_begin_11 (by decide) ?_
  refine wv_putL fX3_46 dX3_begin_12 rfl rfl rfl rfl (by first | assumption | rfl) ?_
  refine wv_aload_n dX3_begin_15 rfl ?_
  refine wv_lconst (v := 0) dX3_begin_16 (by decide) ?_
  refine wv_putL fX3_49 dX3_begin_17 rfl rfl rfl rfl (by first | assumption | rfl) ?_
  refine wv_aload_n dX3_begin_20 rfl ?_
  refine wv_lconst (v := 0) dX3_begin_21 (by decide) ?_
  refine wv_putL fX3_52 dX3_begin_22 rfl rfl rfl rfl (by first | assumption | rfl) ?_
  refine wv_aload_n dX3_begin_25 rfl ?_
  refine wv_lconst (v := 0) dX3_begin_26 (by decide) ?_
  refine wv_putL fX3_55 dX3_begin_27 rfl rfl rfl rfl (by first | assumption | rfl) ?_
  refine wv_ret (x := ()) rfl dX3_begin_30 ?_
  refine ⟨rfl, rfl, rfl, ?_, rfl⟩
  funext a b; simp only [wr_uL]; grind

set_option maxHeartbeats 4000000 in
set_option maxRecDepth 100000 in
theorem cP_allUp {l : Launch} {I : wr_TI} {L : wr_TL} {R : wr_TR} (q : Nat) (hs : SH[q]? = some (.inr 3)) : wr_E l 0 mX3_allUp [.ref q] SH I L R (some (.long (L q 7 ||| L q 8 ||| L q 9))) I L R := by
  refine wv_pad 0 ?_
  show wr_V l 0 mX3_allUp 0 [some (.ref q)] [] SH I L R 0 0 _
  refine wv_aload_n dX3_allUp_0 rfl ?_
  refine wv_getL fX3_39 dX3_allUp_1 rfl (by first | assumption | rfl) ?_
  refine wv_aload_n dX3_allUp_4 rfl ?_
  refine wv_getL fX3_43 dX3_allUp_5 rfl (by first | assumption | rfl) ?_
  refine wv_lor dX3_allUp_8 ?_
  refine wv_aload_n dX3_allUp_9 rfl ?_
  refine wv_getL fX3_46 dX3_allUp_10 rfl (by first | assumption | rfl) ?_
  refine wv_lor dX3_allUp_13 ?_
  refine wv_lret rfl dX3_allUp_14 ?_
  exact ⟨rfl, rfl, rfl, rfl, rfl⟩

set_option maxHeartbeats 4000000 in
set_option maxRecDepth 100000 in
theorem cP_take {l : Launch} {I : wr_TI} {L : wr_TL} {R : wr_TR} (q t a : Nat) (g : RG) (hq : SH[q]? = some (.inr 3)) (ht : SH[t]? = some (.inr 5)) (hqt : t ≠ q) (hV : rgV I L t g) (ha : a < 324) : wr_P l 2 mX3_take [.ref q, .int (nI a), .ref t] SH I L R (fun v s' I' L' R' => v = none ∧ s' = SH ∧ L' = L ∧ R' = wr_uR R q 0 (t + 1) ∧ plT I' R' q t a g ∧ ∀ b, b ≠ q → I' b = I b) := by
  have k1 : nI a - nI a / 4 * 4 = nI (a % 4) := pk_rem (d := 4) (by omega) (by omega) (by omega)
  have k2 : nI a / 4 = nI (a / 4) := pk_div (d := 4) (by omega) (by omega) (by omega)
  have k3 : nI a / 12 = nI (a / 12) := pk_div (d := 12) (by omega) (by omega) (by omega)
  have k4 : nI a / 36 = nI (a / 36) := pk_div (d := 36) (by omega) (by omega) (by omega)
  have k5 : nI a / 108 = nI (a / 108) := pk_div (d := 108) (by omega) (by omega) (by omega)
  have m2 : nI (a / 4) - nI (a / 4) / 3 * 3 = nI (a / 4 % 3) := pk_rem (d := 3) (by omega) (by omega) (by omega)
  have m3 : nI (a / 12) - nI (a / 12) / 3 * 3 = nI (a / 12 % 3) := pk_rem (d := 3) (by omega) (by omega) (by omega)
  have m4 : nI (a / 36) - nI (a / 36) / 3 * 3 = nI (a / 36 % 3) := pk_rem (d := 3) (by omega) (by omega) (by omega)
  have hsi := sight_eq (n := gN g) (se := a / 36 % 3 + 1) hV.2.2.1 hV.2.1 (by omega)
  have hpm : nI (min (a / 36 % 3 + 1) ((gN g - 1) / 2)) = nI (pm g a) := rfl
  rw [hpm] at hsi
  have hn := hV.1
  refine wv_pad 1 ?_
  show wr_V l 2 mX3_take 0 [some (.ref q), some (.int (nI a)), some (.ref t), none] [] SH I L R 0 0 _
  refine wv_aload_n dX3_take_0 rfl ?_
  refine wv_aload_n dX3_take_1 rfl ?_
  refine wv_putR fX3_7 dX3_take_2 rfl rfl (by first | assumption | rfl) ?_
  refine wv_aload_n dX3_take_5 rfl ?_
  refine wv_iload_n dX3_take_6 rfl ?_
  refine wv_iconst (v := 4) dX3_take_7 (by decide) ?_
  refine wv_irem dX3_take_8 (show ¬ (4 : Int32) = 0 by decide) ?_
  rw [k1]
  refine wv_putI fX3_13 dX3_take_9 rfl rfl rfl rfl (by first | assumption | rfl) ?_
  refine wv_aload_n dX3_take_12 rfl ?_
  refine wv_iload_n dX3_take_13 rfl ?_
  refine wv_iconst (v := 4) dX3_take_14 (by decide) ?_
  refine wv_idiv dX3_take_15 (show ¬ (4 : Int32) = 0 by decide) ?_
  rw [k2]
  refine wv_iconst (v := 3) dX3_take_16 (by decide) ?_
  refine wv_irem dX3_take_17 (show ¬ (3 : Int32) = 0 by decide) ?_
  rw [m2]
  refine wv_iconst (v := 1) dX3_take_18 (by decide) ?_
  refine wv_iadd dX3_take_19 ?_
  rw [nI_1]
  refine wv_putI fX3_17 dX3_take_20 rfl rfl rfl rfl (by first | assumption | rfl) ?_
  refine wv_aload_n dX3_take_23 rfl ?_
  refine wv_iload_n dX3_take_24 rfl ?_
  refine wv_bipush (v := 12) dX3_take_25 (by decide) ?_
  refine wv_idiv dX3_take_27 (show ¬ (12 : Int32) = 0 by decide) ?_
  rw [k3]
  refine wv_iconst (v := 3) dX3_take_28 (by decide) ?_
  refine wv_irem dX3_take_29 (show ¬ (3 : Int32) = 0 by decide) ?_
  rw [m3]
  refine wv_iconst (v := 1) dX3_take_30 (by decide) ?_
  refine wv_iadd dX3_take_31 ?_
  rw [nI_1]
  refine wv_putI fX3_20 dX3_take_32 rfl rfl rfl rfl (by first | assumption | rfl) ?_
  refine wv_aload_n dX3_take_35 rfl ?_
  refine wv_aload_n dX3_take_36 rfl ?_
  refine wv_iload_n dX3_take_37 rfl ?_
  refine wv_bipush (v := 36) dX3_take_38 (by decide) ?_
  refine wv_idiv dX3_take_40 (show ¬ (36 : Int32) = 0 by decide) ?_
  rw [k4]
  refine wv_iconst (v := 3) dX3_take_41 (by decide) ?_
  refine wv_irem dX3_take_42 (show ¬ (3 : Int32) = 0 by decide) ?_
  rw [m4]
  refine wv_iconst (v := 1) dX3_take_43 (by decide) ?_
  refine wv_iadd dX3_take_44 ?_
  rw [nI_1]
  refine wv_v1e oX5_sightOf kX3_23 dX3_take_45 (by omega) (by first | assumption | rfl) ⟨rfl, by decide⟩ (Nat.le_of_ble_eq_true rfl) (Nat.le_of_ble_eq_true rfl) (cR_sight t _ ht) ?_
  rw [wr_uI_ne hqt, wr_uI_ne hqt, wr_uI_ne hqt, hn, hsi]
  refine wv_putI fX3_29 dX3_take_48 rfl rfl rfl rfl (by first | assumption | rfl) ?_
  refine wv_iload_n dX3_take_51 rfl ?_
  refine wv_bipush (v := 108) dX3_take_52 (by decide) ?_
  refine wv_idiv dX3_take_54 (show ¬ (108 : Int32) = 0 by decide) ?_
  rw [k5]
  refine wv_istore_k (i := 3) dX3_take_55 rfl (by decide) ?_
  refine wv_aload_n dX3_take_56 rfl ?_
  refine wv_iload_n dX3_take_57 rfl ?_
  refine wv_iconst (v := 1) dX3_take_58 (by decide) ?_
  refine wv_icmp_eq (tgt := 66) dX3_take_59 (by decide) (fun h59 => ?_) (fun h59 => ?_)
  · have h59n : a / 108 = 1 := (nI_eq (b := 1) (by omega) (by omega)).mp h59
    refine wv_iconst (v := 0) dX3_take_66 (by decide) ?_
    refine wv_putI fX3_32 dX3_take_67 rfl rfl rfl rfl (by first | assumption | rfl) ?_
    refine wv_aload_n dX3_take_70 rfl ?_
    refine wv_iload_n dX3_take_71 rfl ?_
    refine wv_if_eq (tgt := 79) dX3_take_72 (by decide) (fun h72 => ?_) (fun h72 => ?_)
    · have h72n : a / 108 = 0 := (nI_eq (b := 0) (by omega) (by omega)).mp h72
      refine wv_iconst (v := 0) dX3_take_79 (by decide) ?_
      refine wv_putI fX3_36 dX3_take_80 rfl rfl rfl rfl (by first | assumption | rfl) ?_
      refine wv_ret (x := ()) rfl dX3_take_83 ?_
      refine ⟨rfl, rfl, rfl, rfl, ?_, fun b hb => by rw [wr_uI_ne hb, wr_uI_ne hb, wr_uI_ne hb, wr_uI_ne hb, wr_uI_ne hb, wr_uI_ne hb]⟩
      unfold plT
      first | (exfalso; omega) | simp [wr_uI, wr_uR, h59n, h72n]
    · have h72n : ¬ a / 108 = 0 := fun z => h72 (by rw [z]; rfl)
      refine wv_iconst (v := 1) dX3_take_75 (by decide) ?_
      refine wv_goto (tgt := 80) dX3_take_76 (by decide) ?_
      refine wv_putI fX3_36 dX3_take_80 rfl rfl rfl rfl (by first | assumption | rfl) ?_
      refine wv_ret (x := ()) rfl dX3_take_83 ?_
      refine ⟨rfl, rfl, rfl, rfl, ?_, fun b hb => by rw [wr_uI_ne hb, wr_uI_ne hb, wr_uI_ne hb, wr_uI_ne hb, wr_uI_ne hb, wr_uI_ne hb]⟩
      unfold plT
      first | (exfalso; omega) | simp [wr_uI, wr_uR, h59n, h72n]
  · have h59n : ¬ a / 108 = 1 := fun z => h59 (by rw [z]; rfl)
    refine wv_iconst (v := 1) dX3_take_62 (by decide) ?_
    refine wv_goto (tgt := 67) dX3_take_63 (by decide) ?_
    refine wv_putI fX3_32 dX3_take_67 rfl rfl rfl rfl (by first | assumption | rfl) ?_
    refine wv_aload_n dX3_take_70 rfl ?_
    refine wv_iload_n dX3_take_71 rfl ?_
    refine wv_if_eq (tgt := 79) dX3_take_72 (by decide) (fun h72 => ?_) (fun h72 => ?_)
    · have h72n : a / 108 = 0 := (nI_eq (b := 0) (by omega) (by omega)).mp h72
      refine wv_iconst (v := 0) dX3_take_79 (by decide) ?_
      refine wv_putI fX3_36 dX3_take_80 rfl rfl rfl rfl (by first | assumption | rfl) ?_
      refine wv_ret (x := ()) rfl dX3_take_83 ?_
      refine ⟨rfl, rfl, rfl, rfl, ?_, fun b hb => by rw [wr_uI_ne hb, wr_uI_ne hb, wr_uI_ne hb, wr_uI_ne hb, wr_uI_ne hb, wr_uI_ne hb]⟩
      unfold plT
      first | (exfalso; omega) | simp [wr_uI, wr_uR, h59n, h72n]
    · have h72n : ¬ a / 108 = 0 := fun z => h72 (by rw [z]; rfl)
      refine wv_iconst (v := 1) dX3_take_75 (by decide) ?_
      refine wv_goto (tgt := 80) dX3_take_76 (by decide) ?_
      refine wv_putI fX3_36 dX3_take_80 rfl rfl rfl rfl (by first | assumption | rfl) ?_
      refine wv_ret (x := ()) rfl dX3_take_83 ?_
      refine ⟨rfl, rfl, rfl, rfl, ?_, fun b hb => by rw [wr_uI_ne hb, wr_uI_ne hb, wr_uI_ne hb, wr_uI_ne hb, wr_uI_ne hb, wr_uI_ne hb]⟩
      unfold plT
      first | (exfalso; omega) | simp [wr_uI, wr_uR, h59n, h72n]

