/-! Long.bitCount counts bits -/
theorem pc_split {a b m M : Nat} (ha : a < 256) (hm : m < 256) : (a + 256 * b) &&& (m + 256 * M) = (a &&& m) + 256 * (b &&& M) := by
  have h1 : a &&& m < 256 := Nat.lt_of_le_of_lt Nat.and_le_left ha
  apply Nat.eq_of_testBit_eq
  intro i
  rw [Nat.testBit_and, Nat.add_comm a, Nat.add_comm m, Nat.add_comm (a &&& m)]
  rw [show 256 = 2 ^ 8 from rfl] at *
  rw [Nat.testBit_two_pow_mul_add _ ha, Nat.testBit_two_pow_mul_add _ hm, Nat.testBit_two_pow_mul_add _ h1]
  by_cases h : i < 8
  · simp [h, Nat.testBit_and]
  · simp [h, Nat.testBit_and]
def pc_M (m : Nat) : Nat → Nat
  | 0 => 0
  | n + 1 => m + 256 * pc_M m n
def pc_f1 (X M5 : Nat) : Nat := X - ((X / 2) &&& M5)
def pc_f2 (X M3 : Nat) : Nat := (X &&& M3) + ((X / 4) &&& M3)
def pc_f3 (X MF : Nat) : Nat := (X + X / 16) &&& MF
theorem pc_h1 : ∀ b : Fin 256, ∀ c : Fin 2, ((b.val / 2 + 128 * c.val) &&& 0x55) = ((b.val / 2) &&& 0x55) ∧ ((b.val / 2) &&& 0x55) ≤ b.val := by decide +kernel
theorem pc_h2 : ∀ b : Fin 256, ∀ c : Fin 4, ((b.val / 4 + 64 * c.val) &&& 0x33) = ((b.val / 4) &&& 0x33) := by decide +kernel
theorem pc_h3 : ∀ b : Fin 69, ∀ c : Fin 5, ((b.val + (b.val / 16 + 16 * c.val)) &&& 0x0f) = ((b.val + b.val / 16) &&& 0x0f) := by decide +kernel
def pc_8 (b : Nat) : Nat := cn (fun i => b.testBit i) 8
theorem pc_b : ∀ b : Fin 256, pc_f3 (pc_f2 (pc_f1 b.val 0x55) 0x33) 0x0f = pc_8 b.val ∧ pc_f1 b.val 0x55 < 256 ∧ pc_f2 (pc_f1 b.val 0x55) 0x33 < 69 ∧ pc_8 b.val ≤ 8 ∧ pc_f2 (pc_f1 b.val 0x55) 0x33 % 16 ≤ 4 := by decide +kernel
theorem pc_1 {x X M : Nat} (hx : x < 256) : pc_f1 (x + 256 * X) (0x55 + 256 * M) = pc_f1 x 0x55 + 256 * pc_f1 X M := by
  unfold pc_f1
  have e : (x + 256 * X) / 2 = (x / 2 + 128 * (X % 2)) + 256 * (X / 2) := by omega
  have q := pc_h1 ⟨x, hx⟩ ⟨X % 2, Nat.mod_lt _ (by omega)⟩
  simp only at q
  rw [e, pc_split (by omega) (by omega), q.1]
  have h2 : (X / 2) &&& M ≤ X := Nat.le_trans Nat.and_le_left (by omega)
  have h3 := q.2
  omega
theorem pc_2 {x X M : Nat} (hx : x < 256) : pc_f2 (x + 256 * X) (0x33 + 256 * M) = pc_f2 x 0x33 + 256 * pc_f2 X M := by
  unfold pc_f2
  have e : (x + 256 * X) / 4 = (x / 4 + 64 * (X % 4)) + 256 * (X / 4) := by omega
  have q := pc_h2 ⟨x, hx⟩ ⟨X % 4, Nat.mod_lt _ (by omega)⟩
  simp only at q
  rw [e, pc_split (by omega) (by omega), pc_split (by omega) (by omega), q]
  omega
/-- all steps, byte by byte; the bytes behind the second step are small, so nothing is carried -/
def pc_G : Nat → Nat → Nat
  | 0, _ => 0
  | n + 1, X => pc_8 (X % 256) + 256 * pc_G n (X / 256)
def pc_S : Nat → Nat → Nat
  | 0, _ => 0
  | n + 1, X => pc_f2 (pc_f1 (X % 256) 0x55) 0x33 + 256 * pc_S n (X / 256)
theorem pc_12 : ∀ (n X : Nat), X < 256 ^ n → pc_f2 (pc_f1 X (pc_M 0x55 n)) (pc_M 0x33 n) = pc_S n X := by
  intro n
  induction n with
  | zero => intro X h; have : X = 0 := by simpa using h
            subst this; rfl
  | succ n ih =>
    intro X h
    have hX : X = X % 256 + 256 * (X / 256) := by omega
    have hl : X / 256 < 256 ^ n := by
      rw [Nat.pow_succ] at h
      exact Nat.div_lt_of_lt_mul (by omega)
    have hm : X % 256 < 256 := Nat.mod_lt _ (by omega)
    conv => lhs; rw [hX]
    simp only [pc_M, pc_S]
    rw [pc_1 hm, pc_2 (pc_b ⟨_, hm⟩).2.1, ih _ hl]
theorem pc_S16 (n X : Nat) : pc_S n X % 16 ≤ 4 := by
  cases n with
  | zero => simp [pc_S]
  | succ n =>
    have hm : X % 256 < 256 := Nat.mod_lt _ (by omega)
    have hb := (pc_b ⟨_, hm⟩).2.2.2.2
    simp only at hb
    simp only [pc_S]
    omega
theorem pc_3 {x X M : Nat} (hx : x < 69) (hX : X % 16 ≤ 4) : pc_f3 (x + 256 * X) (0x0f + 256 * M) = pc_f3 x 0x0f + 256 * pc_f3 X M := by
  unfold pc_f3
  have e : x + 256 * X + (x + 256 * X) / 16 = (x + (x / 16 + 16 * (X % 16))) + 256 * (X + X / 16) := by omega
  have q := pc_h3 ⟨x, hx⟩ ⟨X % 16, by omega⟩
  simp only at q
  rw [e, pc_split (by omega) (by omega), q]
theorem pc_all : ∀ (n X : Nat), pc_f3 (pc_S n X) (pc_M 0x0f n) = pc_G n X := by
  intro n
  induction n with
  | zero => intro X; simp [pc_S, pc_M, pc_G, pc_f3]
  | succ n ih =>
    intro X
    have hm : X % 256 < 256 := Nat.mod_lt _ (by omega)
    have hb := pc_b ⟨_, hm⟩
    simp only at hb
    simp only [pc_S, pc_M, pc_G]
    rw [pc_3 hb.2.2.1 (pc_S16 n _), ih, hb.1]
theorem pc_bits : ∀ (n X : Nat), cn (fun i => X.testBit i) (8 * n + 8) = cn (fun i => X.testBit i) (8 * n) + pc_8 (X / 256 ^ n % 256) := by
  intro n X
  rw [cn_add]
  congr 1
  apply cn_congr
  intro i hi
  rw [show 256 = 2 ^ 8 from rfl, ← Nat.pow_mul, Nat.testBit_mod_two_pow, Nat.testBit_div_two_pow]
  simp [hi, Nat.add_comm]
theorem pc_8_le (b : Nat) : pc_8 (b % 256) ≤ 8 := cn_le _ 8
theorem pc_e2 {c0 c1 c2 V0 V1 V2 V3 : Nat} (b0 : c0 ≤ 8) (b1 : c1 ≤ 8) (b2 : c2 ≤ 8) (h0 : V0 = c0 + 256 * V1) (h1 : V1 = c1 + 256 * V2) (h2 : V2 = c2 + 256 * V3) : V0 / 256 = V1 ∧ (V0 + V1) / 65536 = V2 + V3 := by
  subst h0; subst h1; subst h2
  exact ⟨by omega, by omega⟩
theorem pc_e4 {c0 c1 c2 c3 V0 V1 V2 V3 V4 : Nat} (b0 : c0 ≤ 8) (b1 : c1 ≤ 8) (b2 : c2 ≤ 8) (b3 : c3 ≤ 8) (h0 : V0 = c0 + 256 * V1) (h1 : V1 = c1 + 256 * V2) (h2 : V2 = c2 + 256 * V3) (h3 : V3 = c3 + 256 * V4) : ∃ a, a ≤ 134744072 ∧ V0 = a + 4294967296 * V4 ∧ V0 % 128 = c0 % 128 := by
  subst h0; subst h1; subst h2; subst h3
  exact ⟨c0 + 256 * c1 + 65536 * c2 + 16777216 * c3, by omega, by omega, by omega⟩
theorem pc_nat (X : Nat) : ((pc_G 8 X + pc_G 8 X / 256 + (pc_G 8 X + pc_G 8 X / 256) / 65536) + ((pc_G 8 X + pc_G 8 X / 256 + (pc_G 8 X + pc_G 8 X / 256) / 65536)) / 4294967296) % 128 = cn (fun i => X.testBit i) 64 ∧ pc_G 8 X < 2 ^ 60 := by
  have hb : cn (fun i => X.testBit i) 64 = pc_8 (X / 256 ^ 0 % 256) + pc_8 (X / 256 ^ 1 % 256) + pc_8 (X / 256 ^ 2 % 256) + pc_8 (X / 256 ^ 3 % 256) + pc_8 (X / 256 ^ 4 % 256) + pc_8 (X / 256 ^ 5 % 256) + pc_8 (X / 256 ^ 6 % 256) + pc_8 (X / 256 ^ 7 % 256) := by
    have q0 := pc_bits 0 X
    have q1 := pc_bits 1 X
    have q2 := pc_bits 2 X
    have q3 := pc_bits 3 X
    have q4 := pc_bits 4 X
    have q5 := pc_bits 5 X
    have q6 := pc_bits 6 X
    have q7 := pc_bits 7 X
    simp only [Nat.reduceMul, Nat.reduceAdd] at q0 q1 q2 q3 q4 q5 q6 q7
    rw [q7, q6, q5, q4, q3, q2, q1, q0]
    simp only [cn]
    omega
  have b0 := pc_8_le (X / 256 ^ 0)
  have b1 := pc_8_le (X / 256 ^ 1)
  have b2 := pc_8_le (X / 256 ^ 2)
  have b3 := pc_8_le (X / 256 ^ 3)
  have b4 := pc_8_le (X / 256 ^ 4)
  have b5 := pc_8_le (X / 256 ^ 5)
  have b6 := pc_8_le (X / 256 ^ 6)
  have b7 := pc_8_le (X / 256 ^ 7)
  have st : ∀ n k : Nat, pc_G (n + 1) (X / 256 ^ k) = pc_8 (X / 256 ^ k % 256) + 256 * pc_G n (X / 256 ^ (k + 1)) := by
    intro n k
    simp only [pc_G]
    rw [Nat.div_div_eq_div_mul, ← Nat.pow_succ]
  have hG : pc_G 8 X = pc_G 8 (X / 256 ^ 0) := by simp
  rw [hb, hG]
  have h0 := st 7 0
  have h1 := st 6 1
  have h2 := st 5 2
  have h3 := st 4 3
  have h4 := st 3 4
  have h5 := st 2 5
  have h6 := st 1 6
  have h7 := st 0 7
  have h8 : pc_G 0 (X / 256 ^ 8) = 0 := rfl
  simp only [Nat.reduceAdd] at h0 h1 h2 h3 h4 h5 h6 h7
  generalize pc_8 (X / 256 ^ 0 % 256) = c0 at *
  generalize pc_8 (X / 256 ^ 1 % 256) = c1 at *
  generalize pc_8 (X / 256 ^ 2 % 256) = c2 at *
  generalize pc_8 (X / 256 ^ 3 % 256) = c3 at *
  generalize pc_8 (X / 256 ^ 4 % 256) = c4 at *
  generalize pc_8 (X / 256 ^ 5 % 256) = c5 at *
  generalize pc_8 (X / 256 ^ 6 % 256) = c6 at *
  generalize pc_8 (X / 256 ^ 7 % 256) = c7 at *
  generalize pc_G 8 (X / 256 ^ 0) = V0 at *
  generalize pc_G 7 (X / 256 ^ 1) = V1 at *
  generalize pc_G 6 (X / 256 ^ 2) = V2 at *
  generalize pc_G 5 (X / 256 ^ 3) = V3 at *
  generalize pc_G 4 (X / 256 ^ 4) = V4 at *
  generalize pc_G 3 (X / 256 ^ 5) = V5 at *
  generalize pc_G 2 (X / 256 ^ 6) = V6 at *
  generalize pc_G 1 (X / 256 ^ 7) = V7 at *
  rw [h8] at h7
  clear h8 st hG hb
  have h8 : (0 : Nat) = 0 + 256 * 0 := rfl
  obtain ⟨e1, e2⟩ := pc_e2 b0 b1 b2 h0 h1 h2
  obtain ⟨a0, z0, y0, m0⟩ := pc_e4 b0 b1 b2 b3 h0 h1 h2 h3
  obtain ⟨a1, z1, y1, m1⟩ := pc_e4 b1 b2 b3 b4 h1 h2 h3 h4
  obtain ⟨a2, z2, y2, m2⟩ := pc_e4 b2 b3 b4 b5 h2 h3 h4 h5
  obtain ⟨a3, z3, y3, m3⟩ := pc_e4 b3 b4 b5 b6 h3 h4 h5 h6
  obtain ⟨a4, z4, y4, m4⟩ := pc_e4 b4 b5 b6 b7 h4 h5 h6 h7
  obtain ⟨a5, z5, y5, m5⟩ := pc_e4 b5 b6 b7 (Nat.zero_le 8) h5 h6 h7 h8
  obtain ⟨a6, z6, y6, m6⟩ := pc_e4 b6 b7 (Nat.zero_le 8) (Nat.zero_le 8) h6 h7 h8 h8
  obtain ⟨a7, z7, y7, m7⟩ := pc_e4 b7 (Nat.zero_le 8) (Nat.zero_le 8) (Nat.zero_le 8) h7 h8 h8 h8
  clear h0 h1 h2 h3 h4 h5 h6 h7 h8
  rw [e1, e2]
  have e3 : (V0 + V1 + (V2 + V3)) / 4294967296 = V4 + V5 + V6 + V7 := by
    clear m0 m1 m2 m3 m4 m5 m6 m7 y4 y5 y6 y7 z4 z5 z6 z7 e1 e2
    omega
  rw [e3]
  refine ⟨?_, ?_⟩
  · clear y0 y1 y2 y3 y4 y5 y6 y7 z0 z1 z2 z3 z4 z5 z6 z7 e1 e2 e3
    omega
  · clear m0 m1 m2 m3 m4 m5 m6 m7 e1 e2 e3 y1 y2 y3 z1 z2 z3 y5 y6 y7 z5 z6 z7
    omega
