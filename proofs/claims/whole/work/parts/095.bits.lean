/-! bits of a long, counts -/
def lb (x : Int64) (i : Nat) : Bool := x.toBitVec.getLsbD i
theorem lb_ext {x y : Int64} (h : ∀ i, i < 64 → lb x i = lb y i) : x = y := by
  apply Int64.toBitVec_inj.mp
  apply BitVec.eq_of_getLsbD_eq
  intro i hi
  exact h i hi
theorem lb_or (x y : Int64) (i : Nat) : lb (x ||| y) i = (lb x i || lb y i) := by simp [lb]
theorem lb_and (x y : Int64) (i : Nat) : lb (x &&& y) i = (lb x i && lb y i) := by simp [lb]
theorem lb_xor (x y : Int64) (i : Nat) : lb (x ^^^ y) i = (lb x i ^^ lb y i) := by simp [lb]
theorem lb_0 (i : Nat) : lb 0 i = false := by simp [lb]
theorem lb_big {x : Int64} {i : Nat} (h : 64 ≤ i) : lb x i = false := by
  unfold lb
  exact BitVec.getLsbD_of_ge _ _ h
theorem lb_m1 {i : Nat} (h : i < 64) : lb (-1) i = true := by
  have : ∀ i : Fin 64, lb (-1) i.val = true := by decide
  exact this ⟨i, h⟩
theorem lb_not (x : Int64) {i : Nat} (h : i < 64) : lb (x ^^^ (-1)) i = !lb x i := by rw [lb_xor, lb_m1 h]; simp
theorem ls_l : ∀ n : Fin 64, (((nI n.val).toInt64 &&& 63).toBitVec.smod 64).toNat = n.val := by decide +kernel
theorem ls_u : ∀ n : Fin 64, (((nI n.val).toInt64.toUInt64 &&& Int64.toUInt64 63).toBitVec % 64).toNat = n.val := by decide +kernel
theorem lb_shl (n : Nat) (hn : n < 64) (x : Int64) {i : Nat} (hi : i < 64) : lb (x <<< ((nI n).toInt64 &&& 63)) i = (decide (n ≤ i) && lb x (i - n)) := by
  have e := ls_l ⟨n, hn⟩
  simp only at e
  unfold lb
  rw [Int64.toBitVec_shiftLeft, BitVec.shiftLeft_eq', e, BitVec.getLsbD_shiftLeft]
  by_cases h : i < n
  · have : ¬ n ≤ i := by omega
    simp [h, this, hi]
  · have h2 : n ≤ i := by omega
    simp [h, h2, hi]
theorem lb_ushr (n : Nat) (hn : n < 64) (x : Int64) (i : Nat) : lb ((x.toUInt64 >>> ((nI n).toInt64.toUInt64 &&& Int64.toUInt64 63)).toInt64) i = lb x (n + i) := by
  have e := ls_u ⟨n, hn⟩
  simp only at e
  unfold lb
  show ((x.toUInt64 >>> _).toBitVec).getLsbD i = _
  rw [UInt64.toBitVec_shiftRight, BitVec.ushiftRight_eq', e, BitVec.getLsbD_ushiftRight]
  rfl
theorem lb_sshr (n : Nat) (hn : n < 64) (x : Int64) {i : Nat} (hi : i < 64) : lb (x >>> ((nI n).toInt64 &&& 63)) i = if n + i < 64 then lb x (n + i) else lb x 63 := by
  have e := ls_l ⟨n, hn⟩
  simp only at e
  unfold lb
  rw [Int64.toBitVec_shiftRight, BitVec.sshiftRight_eq', e, BitVec.getLsbD_sshiftRight]
  by_cases h : n + i < 64
  · simp [h, hi]
  · simp [h, hi, BitVec.msb_eq_getLsbD_last]
theorem lb_1 (i : Nat) : lb 1 i = decide (i = 0) := by
  unfold lb
  show ((1 : BitVec 64)).getLsbD i = _
  simp [BitVec.getLsbD_one]
theorem lb_one (n : Nat) (hn : n < 64) {i : Nat} (hi : i < 64) : lb (1 <<< ((nI n).toInt64 &&& 63)) i = decide (i = n) := by
  rw [lb_shl n hn 1 hi, lb_1]
  by_cases h : i = n
  · subst h; simp
  · simp [h]
    intro h2; omega
theorem lb_mask : ∀ n : Fin 64, ∀ i : Fin 64, lb ((1 <<< ((nI n.val).toInt64 &&& 63)) - 1) i.val = decide (i.val < n.val) := by decide +kernel
theorem lb_every (n : Nat) (hn : n < 64) (i : Nat) : lb ((1 <<< ((nI n).toInt64 &&& 63)) - 1) i = decide (i < n) := by
  by_cases hi : i < 64
  · exact lb_mask ⟨n, hn⟩ ⟨i, hi⟩
  · rw [lb_big (by omega)]
    simp
    omega
/-- how many of the first n -/
def cn (p : Nat → Bool) : Nat → Nat
  | 0 => 0
  | n + 1 => cn p n + (if p n then 1 else 0)
theorem cn_le (p : Nat → Bool) : ∀ n, cn p n ≤ n := by
  intro n
  induction n with
  | zero => exact Nat.le_refl _
  | succ n ih => simp only [cn]; split <;> omega
theorem cn_congr {p q : Nat → Bool} : ∀ {n : Nat}, (∀ i, i < n → p i = q i) → cn p n = cn q n := by
  intro n
  induction n with
  | zero => intro _; rfl
  | succ n ih =>
    intro h
    simp only [cn]
    rw [ih (fun i hi => h i (by omega)), h n (by omega)]
theorem cn_add (p : Nat → Bool) (a : Nat) : ∀ b, cn p (a + b) = cn p a + cn (fun i => p (a + i)) b := by
  intro b
  induction b with
  | zero => rfl
  | succ b ih =>
    rw [← Nat.add_assoc]
    simp only [cn]
    rw [ih]
    omega
theorem cn_zero {p : Nat → Bool} : ∀ {n : Nat}, (∀ i, i < n → p i = false) → cn p n = 0 := by
  intro n
  induction n with
  | zero => intro _; rfl
  | succ n ih =>
    intro h
    simp only [cn]
    rw [ih (fun i hi => h i (by omega)), h n (by omega)]
    rfl
theorem cn_pos {p : Nat → Bool} : ∀ {n : Nat}, cn p n = 0 ↔ ∀ i, i < n → p i = false := by
  intro n
  refine ⟨?_, cn_zero⟩
  induction n with
  | zero => intro _ i hi; omega
  | succ n ih =>
    intro h i hi
    simp only [cn] at h
    have h1 : cn p n = 0 := by omega
    have h2 : (if p n = true then 1 else 0) = 0 := by omega
    rcases Nat.lt_succ_iff_lt_or_eq.mp hi with h3 | h3
    · exact ih h1 i h3
    · subst h3
      cases hp : p i with
      | false => rfl
      | true => rw [hp] at h2; simp at h2
/-- only the first m of n can be -/
theorem cn_cut {p : Nat → Bool} {m n : Nat} (h : m ≤ n) (hz : ∀ i, m ≤ i → i < n → p i = false) : cn p n = cn p m := by
  obtain ⟨d, rfl⟩ := Nat.exists_eq_add_of_le h
  rw [cn_add, cn_zero (n := d) (fun i hi => hz _ (by omega) (by omega))]
  omega
/-- backwards -/
theorem cn_rev (p : Nat → Bool) : ∀ n, cn p n = cn (fun i => p (n - 1 - i)) n := by
  intro n
  induction n with
  | zero => rfl
  | succ n ih =>
    have e : cn (fun i => p (n + 1 - 1 - i)) (n + 1) = cn (fun i => p (n + 1 - 1 - i)) 1 + cn (fun i => p (n + 1 - 1 - (1 + i))) n := by
      rw [show n + 1 = 1 + n by omega]
      rw [cn_add]
    rw [e]
    simp only [cn]
    have e2 : cn (fun i => p (n + 1 - 1 - (1 + i))) n = cn (fun i => p (n - 1 - i)) n := cn_congr (fun i _ => by congr 1; omega)
    rw [e2, ← ih]
    simp
    omega
