/-! Long.bitCount as the JDK writes it -/
def us (x : Int64) (k : Int32) : Int64 := (x.toUInt64 >>> (k.toInt64.toUInt64 &&& Int64.toUInt64 63)).toInt64
def pc_E1 (x : Int64) : Int64 := x - (us x 1 &&& 6148914691236517205)
def pc_E2 (x : Int64) : Int64 := (x &&& 3689348814741910323) + (us x 2 &&& 3689348814741910323)
def pc_E3 (x : Int64) : Int64 := (x + us x 4) &&& 1085102592571150095
def pc_E4 (x : Int64) : Int64 := x + us x 8
def pc_E5 (x : Int64) : Int64 := x + us x 16
def pc_E6 (x : Int64) : Int64 := x + us x 32
def pc_E (x : Int64) : Int32 := (pc_E6 (pc_E5 (pc_E4 (pc_E3 (pc_E2 (pc_E1 x)))))).toInt32 &&& 127
def tn (x : Int64) : Nat := x.toBitVec.toNat
theorem tn_lt (x : Int64) : tn x < 2 ^ 64 := x.toBitVec.isLt
theorem tn_us (x : Int64) (k : Nat) (hk : k < 64) : tn (us x (nI k)) = tn x / 2 ^ k := by
  have e := ls_u ⟨k, hk⟩
  simp only at e
  unfold tn us
  show ((x.toUInt64 >>> _).toBitVec).toNat = _
  rw [UInt64.toBitVec_shiftRight, BitVec.ushiftRight_eq', e, BitVec.toNat_ushiftRight, Nat.shiftRight_eq_div_pow]
  rfl
theorem tn_and (x y : Int64) : tn (x &&& y) = tn x &&& tn y := by simp [tn]
theorem tn_add {x y : Int64} (h : tn x + tn y < 2 ^ 64) : tn (x + y) = tn x + tn y := by
  unfold tn at *
  rw [Int64.toBitVec_add, BitVec.toNat_add, Nat.mod_eq_of_lt h]
theorem tn_sub {x y : Int64} (h : tn y ≤ tn x) : tn (x - y) = tn x - tn y := by
  unfold tn at *
  rw [Int64.toBitVec_sub]
  exact BitVec.toNat_sub_of_le (by rw [BitVec.le_def]; exact h)
theorem tn_c5 : tn 6148914691236517205 = pc_M 0x55 8 := by decide +kernel
theorem tn_c3 : tn 3689348814741910323 = pc_M 0x33 8 := by decide +kernel
theorem tn_cF : tn 1085102592571150095 = pc_M 0x0f 8 := by decide +kernel
theorem pc_E_eq (x : Int64) : pc_E x = nI (cn (lb x) 64) := by
  have hX := tn_lt x
  have e1 : tn (pc_E1 x) = pc_f1 (tn x) (pc_M 0x55 8) := by
    have h1 : tn (us x 1 &&& 6148914691236517205) = (tn x / 2) &&& pc_M 0x55 8 := by rw [tn_and, tn_c5, show (1 : Int32) = nI 1 from rfl, tn_us x 1 (by decide)]
    unfold pc_E1 pc_f1
    rw [tn_sub (by rw [h1]; exact Nat.le_trans Nat.and_le_left (Nat.div_le_self _ _)), h1]
  have e2 : tn (pc_E2 (pc_E1 x)) = pc_S 8 (tn x) := by
    have b3 : pc_M 0x33 8 < 2 ^ 63 := by decide +kernel
    have h1 : tn (pc_E1 x &&& 3689348814741910323) = pc_f1 (tn x) (pc_M 0x55 8) &&& pc_M 0x33 8 := by rw [tn_and, tn_c3, e1]
    have h2 : tn (us (pc_E1 x) 2 &&& 3689348814741910323) = (pc_f1 (tn x) (pc_M 0x55 8) / 4) &&& pc_M 0x33 8 := by rw [tn_and, tn_c3, show (2 : Int32) = nI 2 from rfl, tn_us _ 2 (by decide), e1]
    have g1 := Nat.and_le_right (n := pc_f1 (tn x) (pc_M 0x55 8)) (m := pc_M 0x33 8)
    have g2 := Nat.and_le_right (n := pc_f1 (tn x) (pc_M 0x55 8) / 4) (m := pc_M 0x33 8)
    rw [← pc_12 8 (tn x) (by rw [show 256 ^ 8 = 2 ^ 64 from rfl]; exact hX)]
    unfold pc_E2
    rw [tn_add (by rw [h1, h2]; omega), h1, h2]
    rfl
  have hS : pc_S 8 (tn x) < 2 ^ 63 := by
    rw [← e2]
    have b3 : pc_M 0x33 8 < 2 ^ 62 := by decide +kernel
    have h1 : tn (pc_E1 x &&& 3689348814741910323) ≤ pc_M 0x33 8 := by rw [tn_and, tn_c3]; exact Nat.and_le_right
    have h2 : tn (us (pc_E1 x) 2 &&& 3689348814741910323) ≤ pc_M 0x33 8 := by rw [tn_and, tn_c3]; exact Nat.and_le_right
    unfold pc_E2
    rw [tn_add (by omega)]
    omega
  have e3 : tn (pc_E3 (pc_E2 (pc_E1 x))) = pc_G 8 (tn x) := by
    have h2 : tn (us (pc_E2 (pc_E1 x)) 4) = pc_S 8 (tn x) / 16 := by rw [show (4 : Int32) = nI 4 from rfl, tn_us _ 4 (by decide), e2]
    rw [← pc_all]
    unfold pc_E3
    rw [tn_and, tn_cF, tn_add (by rw [h2, e2]; omega), h2, e2]
    rfl
  obtain ⟨hn, hG⟩ := pc_nat (tn x)
  have e4 : tn (pc_E4 (pc_E3 (pc_E2 (pc_E1 x)))) = pc_G 8 (tn x) + pc_G 8 (tn x) / 256 := by
    have h2 : tn (us (pc_E3 (pc_E2 (pc_E1 x))) 8) = pc_G 8 (tn x) / 256 := by rw [show (8 : Int32) = nI 8 from rfl, tn_us _ 8 (by decide), e3]
    unfold pc_E4
    rw [tn_add (by rw [h2, e3]; omega), h2, e3]
  have e5 : tn (pc_E5 (pc_E4 (pc_E3 (pc_E2 (pc_E1 x))))) = pc_G 8 (tn x) + pc_G 8 (tn x) / 256 + (pc_G 8 (tn x) + pc_G 8 (tn x) / 256) / 65536 := by
    have h2 : tn (us (pc_E4 (pc_E3 (pc_E2 (pc_E1 x)))) 16) = (pc_G 8 (tn x) + pc_G 8 (tn x) / 256) / 65536 := by rw [show (16 : Int32) = nI 16 from rfl, tn_us _ 16 (by decide), e4]
    unfold pc_E5
    rw [tn_add (by rw [h2, e4]; omega), h2, e4]
  have e6 : tn (pc_E6 (pc_E5 (pc_E4 (pc_E3 (pc_E2 (pc_E1 x)))))) = (pc_G 8 (tn x) + pc_G 8 (tn x) / 256 + (pc_G 8 (tn x) + pc_G 8 (tn x) / 256) / 65536) + (pc_G 8 (tn x) + pc_G 8 (tn x) / 256 + (pc_G 8 (tn x) + pc_G 8 (tn x) / 256) / 65536) / 4294967296 := by
    have h2 : tn (us (pc_E5 (pc_E4 (pc_E3 (pc_E2 (pc_E1 x))))) 32) = (pc_G 8 (tn x) + pc_G 8 (tn x) / 256 + (pc_G 8 (tn x) + pc_G 8 (tn x) / 256) / 65536) / 4294967296 := by rw [show (32 : Int32) = nI 32 from rfl, tn_us _ 32 (by decide), e5]
    unfold pc_E6
    rw [tn_add (by rw [h2, e5]; omega), h2, e5]
  unfold pc_E
  rw [pk_and _ 7 (by decide)]
  congr 1
  have e7 : (pc_E6 (pc_E5 (pc_E4 (pc_E3 (pc_E2 (pc_E1 x)))))).toInt32.toBitVec.toNat = tn (pc_E6 (pc_E5 (pc_E4 (pc_E3 (pc_E2 (pc_E1 x)))))) % 2 ^ 32 := by
    unfold tn
    rw [Int64.toBitVec_toInt32, BitVec.signExtend_eq_setWidth_of_le _ (by decide), BitVec.toNat_setWidth]
  rw [e7, e6]
  rw [Nat.mod_mod_of_dvd _ (by decide)]
  exact hn
