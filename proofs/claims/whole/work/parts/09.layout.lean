/-! the layout: which cell is what; cells are numbered in the order in which the two constructors make them -/
def SH : List wr_S := [.inr 7, .inr 6, .inl (1, 800), .inr 5, .inr 2, .inl (0, 260), .inl (0, 30), .inl (0, 6), .inl (0, 6), .inl (0, 6), .inr 5, .inr 2, .inl (0, 260), .inl (0, 30), .inl (0, 6), .inl (0, 6), .inl (0, 6), .inr 4, .inr 0, .inl (0, 40), .inl (0, 40), .inl (0, 3), .inl (0, 7), .inr 0, .inl (0, 40), .inl (0, 40), .inl (0, 3), .inl (0, 7), .inl (4, 3), .inl (2, 3), .inr 1, .inl (0, 60), .inl (3, 60), .inl (0, 60), .inl (0, 60), .inl (2, 40), .inl (3, 40), .inr 3, .inr 3, .inl (3, 16), .inr 0, .inl (0, 40), .inl (0, 40), .inl (0, 3), .inl (0, 7), .inr 0, .inl (0, 40), .inl (0, 40), .inl (0, 3), .inl (0, 7), .inr 0, .inl (0, 40), .inl (0, 40), .inl (0, 3), .inl (0, 7), .inr 8, .inl (0, 800), .inl (2, 40), .inl (2, 40), .inl (2, 40), .inl (2, 40), .inl (2, 40), .inl (2, 40), .inl (0, 6), .inl (0, 6), .inl (0, 6), .inl (0, 6), .inl (0, 6), .inl (0, 6), .inl (0, 300), .inl (0, 300), .inl (0, 300), .inl (0, 300), .inl (0, 300), .inl (0, 40), .inl (0, 40), .inl (0, 40), .inl (0, 40), .inl (0, 40), .inl (0, 40), .inl (0, 3), .inl (0, 3), .inl (2, 40), .inl (0, 60), .inl (0, 60), .inl (0, 60), .inl (3, 60), .inl (3, 40), .inl (2, 40), .inl (2, 324), .inl (0, 80), .inl (0, 40), .inl (0, 40), .inl (2, 3), .inl (0, 120), .inl (0, 120), .inl (0, 9), .inl (0, 3), .inl (0, 3), .inl (0, 3)]
/-- the references that never change -/
def wr_cr (j k : Nat) : Option Nat := match j, k with
  | 0, 0 => some 1
  | 0, 3 => some 17
  | 0, 4 => some 18
  | 0, 5 => some 23
  | 0, 6 => some 28
  | 0, 7 => some 29
  | 0, 8 => some 30
  | 0, 9 => some 37
  | 0, 10 => some 38
  | 0, 11 => some 39
  | 1, 0 => some 2
  | 3, 0 => some 4
  | 3, 1 => some 7
  | 3, 2 => some 8
  | 3, 3 => some 9
  | 4, 0 => some 5
  | 4, 1 => some 6
  | 10, 0 => some 11
  | 10, 1 => some 14
  | 10, 2 => some 15
  | 10, 3 => some 16
  | 11, 0 => some 12
  | 11, 1 => some 13
  | 17, 0 => some 1
  | 18, 0 => some 19
  | 18, 1 => some 20
  | 18, 2 => some 21
  | 18, 3 => some 22
  | 23, 0 => some 24
  | 23, 1 => some 25
  | 23, 2 => some 26
  | 23, 3 => some 27
  | 28, 0 => some 40
  | 28, 1 => some 45
  | 28, 2 => some 50
  | 30, 0 => some 31
  | 30, 1 => some 32
  | 30, 2 => some 33
  | 30, 3 => some 34
  | 30, 4 => some 35
  | 30, 5 => some 36
  | 40, 0 => some 41
  | 40, 1 => some 42
  | 40, 2 => some 43
  | 40, 3 => some 44
  | 45, 0 => some 46
  | 45, 1 => some 47
  | 45, 2 => some 48
  | 45, 3 => some 49
  | 50, 0 => some 51
  | 50, 1 => some 52
  | 50, 2 => some 53
  | 50, 3 => some 54
  | 55, 0 => some 56
  | 55, 10 => some 57
  | 55, 11 => some 58
  | 55, 12 => some 59
  | 55, 13 => some 60
  | 55, 14 => some 61
  | 55, 15 => some 62
  | 55, 16 => some 63
  | 55, 17 => some 64
  | 55, 18 => some 65
  | 55, 19 => some 66
  | 55, 20 => some 67
  | 55, 21 => some 68
  | 55, 37 => some 69
  | 55, 38 => some 70
  | 55, 39 => some 71
  | 55, 40 => some 72
  | 55, 41 => some 73
  | 55, 42 => some 74
  | 55, 49 => some 75
  | 55, 50 => some 76
  | 55, 51 => some 77
  | 55, 52 => some 78
  | 55, 53 => some 79
  | 55, 54 => some 80
  | 55, 55 => some 81
  | 55, 56 => some 82
  | 55, 62 => some 83
  | 55, 63 => some 84
  | 55, 64 => some 85
  | 55, 65 => some 86
  | 55, 66 => some 87
  | 55, 67 => some 88
  | 55, 68 => some 89
  | 55, 72 => some 90
  | 55, 73 => some 91
  | 55, 74 => some 92
  | 55, 75 => some 93
  | 55, 76 => some 94
  | 55, 77 => some 95
  | 55, 78 => some 96
  | 55, 79 => some 97
  | 55, 80 => some 98
  | 55, 81 => some 99
  | _, _ => none
def wr_RC (R : wr_TR) : Prop := ∀ j k r, wr_cr j k = some r → R j k = r + 1
def wr_P (l : Launch) (d : Nat) (M : wr_M) (as : List Value) (sh : List wr_S) (I : wr_TI) (L : wr_TL) (R : wr_TR) (Q : wr_TQ) : Prop := wr_V l d M 0 (wr_ent as) [] sh I L R 0 0 Q
def wr_EQ (v : Option Value) (sh : List wr_S) (I : wr_TI) (L : wr_TL) (R : wr_TR) : wr_TQ := fun v' s' i' l' r' => v' = v ∧ s' = sh ∧ i' = I ∧ l' = L ∧ r' = R
/-- a method's answer and the memory behind it, as functions of what was -/
def wr_E (l : Launch) (d : Nat) (M : wr_M) (as : List Value) (sh : List wr_S) (I : wr_TI) (L : wr_TL) (R : wr_TR) (v : Option Value) (I' : wr_TI) (L' : wr_TL) (R' : wr_TR) : Prop := wr_P l d M as sh I L R (wr_EQ v sh I' L' R')
section WrArity
variable {l : Launch} {d d' : Nat} {M M' : wr_M} {pc : Nat} {ls : List (Option Value)} {st : List Value} {sh : List wr_S} {I I' : wr_TI} {L L' : wr_TL} {R R' : wr_TR} {mc ms : Nat} {Q Q' : wr_TQ} {idx : Nat}
theorem wv_v0 {j ci : Nat} (hw : wr_MV M' 0) (hl : wr_lk M.1.cls idx M') (hd : decode M.2.1 pc = .ok (.invokevirtual idx, 3)) (hdd : d' + 1 ≤ d) (hsh : sh[j]? = some (.inr ci)) (hC : wr_fC ci = M'.1.cls ∧ ci < 9) (hlen : (wr_ent [.ref j]).length ≤ M'.2.2.1) (hcat : (st.map fun v => v.category).sum ≤ 8) (hV : wr_P l d' M' [.ref j] sh I L R Q') (kk : ∀ v sh' I' L' R', Q' v sh' I' L' R' → wr_V l d M (pc + 3) ls (v.toList ++ st) sh' I' L' R' mc ms Q) : wr_V l d M pc ls (.ref j :: st) sh I L R mc ms Q := wv_callV (as := []) hw hl hd hdd (Nat.zero_le _) (Nat.zero_le _) rfl hsh hC hlen rfl hcat hV kk
theorem wv_v0e {j ci : Nat} (hw : wr_MV M' 0) (hl : wr_lk M.1.cls idx M') (hd : decode M.2.1 pc = .ok (.invokevirtual idx, 3)) (hdd : d' + 1 ≤ d) (hsh : sh[j]? = some (.inr ci)) (hC : wr_fC ci = M'.1.cls ∧ ci < 9) (hlen : (wr_ent [.ref j]).length ≤ M'.2.2.1) (hcat : (st.map fun v => v.category).sum ≤ 8) {v : Value} (hV : wr_E l d' M' [.ref j] sh I L R (some v) I' L' R') (kk : wr_V l d M (pc + 3) ls (v :: st) sh I' L' R' mc ms Q) : wr_V l d M pc ls (.ref j :: st) sh I L R mc ms Q := wv_callV (as := []) hw hl hd hdd (Nat.zero_le _) (Nat.zero_le _) rfl hsh hC hlen rfl hcat hV (fun v sh2 I2 L2 R2 h => by obtain ⟨rfl, rfl, rfl, rfl, rfl⟩ := h; exact kk)
theorem wv_v0u {j ci : Nat} (hw : wr_MV M' 0) (hl : wr_lk M.1.cls idx M') (hd : decode M.2.1 pc = .ok (.invokevirtual idx, 3)) (hdd : d' + 1 ≤ d) (hsh : sh[j]? = some (.inr ci)) (hC : wr_fC ci = M'.1.cls ∧ ci < 9) (hlen : (wr_ent [.ref j]).length ≤ M'.2.2.1) (hcat : (st.map fun v => v.category).sum ≤ 8) (hV : wr_E l d' M' [.ref j] sh I L R none I' L' R') (kk : wr_V l d M (pc + 3) ls st sh I' L' R' mc ms Q) : wr_V l d M pc ls (.ref j :: st) sh I L R mc ms Q := wv_callV (as := []) hw hl hd hdd (Nat.zero_le _) (Nat.zero_le _) rfl hsh hC hlen rfl hcat hV (fun v sh2 I2 L2 R2 h => by obtain ⟨rfl, rfl, rfl, rfl, rfl⟩ := h; exact kk)
theorem wv_v1 {j ci : Nat} {a1 : Value} (hw : wr_MV M' 1) (hl : wr_lk M.1.cls idx M') (hd : decode M.2.1 pc = .ok (.invokevirtual idx, 3)) (hdd : d' + 1 ≤ d) (hsh : sh[j]? = some (.inr ci)) (hC : wr_fC ci = M'.1.cls ∧ ci < 9) (hlen : (wr_ent [.ref j, a1]).length ≤ M'.2.2.1) (hcat : (st.map fun v => v.category).sum ≤ 8) (hV : wr_P l d' M' [.ref j, a1] sh I L R Q') (kk : ∀ v sh' I' L' R', Q' v sh' I' L' R' → wr_V l d M (pc + 3) ls (v.toList ++ st) sh' I' L' R' mc ms Q) : wr_V l d M pc ls (a1 :: .ref j :: st) sh I L R mc ms Q := wv_callV (as := [a1]) hw hl hd hdd (Nat.zero_le _) (Nat.zero_le _) rfl hsh hC hlen rfl hcat hV kk
theorem wv_v1e {j ci : Nat} {a1 : Value} (hw : wr_MV M' 1) (hl : wr_lk M.1.cls idx M') (hd : decode M.2.1 pc = .ok (.invokevirtual idx, 3)) (hdd : d' + 1 ≤ d) (hsh : sh[j]? = some (.inr ci)) (hC : wr_fC ci = M'.1.cls ∧ ci < 9) (hlen : (wr_ent [.ref j, a1]).length ≤ M'.2.2.1) (hcat : (st.map fun v => v.category).sum ≤ 8) {v : Value} (hV : wr_E l d' M' [.ref j, a1] sh I L R (some v) I' L' R') (kk : wr_V l d M (pc + 3) ls (v :: st) sh I' L' R' mc ms Q) : wr_V l d M pc ls (a1 :: .ref j :: st) sh I L R mc ms Q := wv_callV (as := [a1]) hw hl hd hdd (Nat.zero_le _) (Nat.zero_le _) rfl hsh hC hlen rfl hcat hV (fun v sh2 I2 L2 R2 h => by obtain ⟨rfl, rfl, rfl, rfl, rfl⟩ := h; exact kk)
theorem wv_v1u {j ci : Nat} {a1 : Value} (hw : wr_MV M' 1) (hl : wr_lk M.1.cls idx M') (hd : decode M.2.1 pc = .ok (.invokevirtual idx, 3)) (hdd : d' + 1 ≤ d) (hsh : sh[j]? = some (.inr ci)) (hC : wr_fC ci = M'.1.cls ∧ ci < 9) (hlen : (wr_ent [.ref j, a1]).length ≤ M'.2.2.1) (hcat : (st.map fun v => v.category).sum ≤ 8) (hV : wr_E l d' M' [.ref j, a1] sh I L R none I' L' R') (kk : wr_V l d M (pc + 3) ls st sh I' L' R' mc ms Q) : wr_V l d M pc ls (a1 :: .ref j :: st) sh I L R mc ms Q := wv_callV (as := [a1]) hw hl hd hdd (Nat.zero_le _) (Nat.zero_le _) rfl hsh hC hlen rfl hcat hV (fun v sh2 I2 L2 R2 h => by obtain ⟨rfl, rfl, rfl, rfl, rfl⟩ := h; exact kk)
theorem wv_v2 {j ci : Nat} {a1 a2 : Value} (hw : wr_MV M' 2) (hl : wr_lk M.1.cls idx M') (hd : decode M.2.1 pc = .ok (.invokevirtual idx, 3)) (hdd : d' + 1 ≤ d) (hsh : sh[j]? = some (.inr ci)) (hC : wr_fC ci = M'.1.cls ∧ ci < 9) (hlen : (wr_ent [.ref j, a1, a2]).length ≤ M'.2.2.1) (hcat : (st.map fun v => v.category).sum ≤ 8) (hV : wr_P l d' M' [.ref j, a1, a2] sh I L R Q') (kk : ∀ v sh' I' L' R', Q' v sh' I' L' R' → wr_V l d M (pc + 3) ls (v.toList ++ st) sh' I' L' R' mc ms Q) : wr_V l d M pc ls (a2 :: a1 :: .ref j :: st) sh I L R mc ms Q := wv_callV (as := [a1, a2]) hw hl hd hdd (Nat.zero_le _) (Nat.zero_le _) rfl hsh hC hlen rfl hcat hV kk
theorem wv_v2e {j ci : Nat} {a1 a2 : Value} (hw : wr_MV M' 2) (hl : wr_lk M.1.cls idx M') (hd : decode M.2.1 pc = .ok (.invokevirtual idx, 3)) (hdd : d' + 1 ≤ d) (hsh : sh[j]? = some (.inr ci)) (hC : wr_fC ci = M'.1.cls ∧ ci < 9) (hlen : (wr_ent [.ref j, a1, a2]).length ≤ M'.2.2.1) (hcat : (st.map fun v => v.category).sum ≤ 8) {v : Value} (hV : wr_E l d' M' [.ref j, a1, a2] sh I L R (some v) I' L' R') (kk : wr_V l d M (pc + 3) ls (v :: st) sh I' L' R' mc ms Q) : wr_V l d M pc ls (a2 :: a1 :: .ref j :: st) sh I L R mc ms Q := wv_callV (as := [a1, a2]) hw hl hd hdd (Nat.zero_le _) (Nat.zero_le _) rfl hsh hC hlen rfl hcat hV (fun v sh2 I2 L2 R2 h => by obtain ⟨rfl, rfl, rfl, rfl, rfl⟩ := h; exact kk)
theorem wv_v2u {j ci : Nat} {a1 a2 : Value} (hw : wr_MV M' 2) (hl : wr_lk M.1.cls idx M') (hd : decode M.2.1 pc = .ok (.invokevirtual idx, 3)) (hdd : d' + 1 ≤ d) (hsh : sh[j]? = some (.inr ci)) (hC : wr_fC ci = M'.1.cls ∧ ci < 9) (hlen : (wr_ent [.ref j, a1, a2]).length ≤ M'.2.2.1) (hcat : (st.map fun v => v.category).sum ≤ 8) (hV : wr_E l d' M' [.ref j, a1, a2] sh I L R none I' L' R') (kk : wr_V l d M (pc + 3) ls st sh I' L' R' mc ms Q) : wr_V l d M pc ls (a2 :: a1 :: .ref j :: st) sh I L R mc ms Q := wv_callV (as := [a1, a2]) hw hl hd hdd (Nat.zero_le _) (Nat.zero_le _) rfl hsh hC hlen rfl hcat hV (fun v sh2 I2 L2 R2 h => by obtain ⟨rfl, rfl, rfl, rfl, rfl⟩ := h; exact kk)
theorem wv_v3 {j ci : Nat} {a1 a2 a3 : Value} (hw : wr_MV M' 3) (hl : wr_lk M.1.cls idx M') (hd : decode M.2.1 pc = .ok (.invokevirtual idx, 3)) (hdd : d' + 1 ≤ d) (hsh : sh[j]? = some (.inr ci)) (hC : wr_fC ci = M'.1.cls ∧ ci < 9) (hlen : (wr_ent [.ref j, a1, a2, a3]).length ≤ M'.2.2.1) (hcat : (st.map fun v => v.category).sum ≤ 8) (hV : wr_P l d' M' [.ref j, a1, a2, a3] sh I L R Q') (kk : ∀ v sh' I' L' R', Q' v sh' I' L' R' → wr_V l d M (pc + 3) ls (v.toList ++ st) sh' I' L' R' mc ms Q) : wr_V l d M pc ls (a3 :: a2 :: a1 :: .ref j :: st) sh I L R mc ms Q := wv_callV (as := [a1, a2, a3]) hw hl hd hdd (Nat.zero_le _) (Nat.zero_le _) rfl hsh hC hlen rfl hcat hV kk
theorem wv_v3e {j ci : Nat} {a1 a2 a3 : Value} (hw : wr_MV M' 3) (hl : wr_lk M.1.cls idx M') (hd : decode M.2.1 pc = .ok (.invokevirtual idx, 3)) (hdd : d' + 1 ≤ d) (hsh : sh[j]? = some (.inr ci)) (hC : wr_fC ci = M'.1.cls ∧ ci < 9) (hlen : (wr_ent [.ref j, a1, a2, a3]).length ≤ M'.2.2.1) (hcat : (st.map fun v => v.category).sum ≤ 8) {v : Value} (hV : wr_E l d' M' [.ref j, a1, a2, a3] sh I L R (some v) I' L' R') (kk : wr_V l d M (pc + 3) ls (v :: st) sh I' L' R' mc ms Q) : wr_V l d M pc ls (a3 :: a2 :: a1 :: .ref j :: st) sh I L R mc ms Q := wv_callV (as := [a1, a2, a3]) hw hl hd hdd (Nat.zero_le _) (Nat.zero_le _) rfl hsh hC hlen rfl hcat hV (fun v sh2 I2 L2 R2 h => by obtain ⟨rfl, rfl, rfl, rfl, rfl⟩ := h; exact kk)
theorem wv_v3u {j ci : Nat} {a1 a2 a3 : Value} (hw : wr_MV M' 3) (hl : wr_lk M.1.cls idx M') (hd : decode M.2.1 pc = .ok (.invokevirtual idx, 3)) (hdd : d' + 1 ≤ d) (hsh : sh[j]? = some (.inr ci)) (hC : wr_fC ci = M'.1.cls ∧ ci < 9) (hlen : (wr_ent [.ref j, a1, a2, a3]).length ≤ M'.2.2.1) (hcat : (st.map fun v => v.category).sum ≤ 8) (hV : wr_E l d' M' [.ref j, a1, a2, a3] sh I L R none I' L' R') (kk : wr_V l d M (pc + 3) ls st sh I' L' R' mc ms Q) : wr_V l d M pc ls (a3 :: a2 :: a1 :: .ref j :: st) sh I L R mc ms Q := wv_callV (as := [a1, a2, a3]) hw hl hd hdd (Nat.zero_le _) (Nat.zero_le _) rfl hsh hC hlen rfl hcat hV (fun v sh2 I2 L2 R2 h => by obtain ⟨rfl, rfl, rfl, rfl, rfl⟩ := h; exact kk)
theorem wv_v4 {j ci : Nat} {a1 a2 a3 a4 : Value} (hw : wr_MV M' 4) (hl : wr_lk M.1.cls idx M') (hd : decode M.2.1 pc = .ok (.invokevirtual idx, 3)) (hdd : d' + 1 ≤ d) (hsh : sh[j]? = some (.inr ci)) (hC : wr_fC ci = M'.1.cls ∧ ci < 9) (hlen : (wr_ent [.ref j, a1, a2, a3, a4]).length ≤ M'.2.2.1) (hcat : (st.map fun v => v.category).sum ≤ 8) (hV : wr_P l d' M' [.ref j, a1, a2, a3, a4] sh I L R Q') (kk : ∀ v sh' I' L' R', Q' v sh' I' L' R' → wr_V l d M (pc + 3) ls (v.toList ++ st) sh' I' L' R' mc ms Q) : wr_V l d M pc ls (a4 :: a3 :: a2 :: a1 :: .ref j :: st) sh I L R mc ms Q := wv_callV (as := [a1, a2, a3, a4]) hw hl hd hdd (Nat.zero_le _) (Nat.zero_le _) rfl hsh hC hlen rfl hcat hV kk
theorem wv_v4e {j ci : Nat} {a1 a2 a3 a4 : Value} (hw : wr_MV M' 4) (hl : wr_lk M.1.cls idx M') (hd : decode M.2.1 pc = .ok (.invokevirtual idx, 3)) (hdd : d' + 1 ≤ d) (hsh : sh[j]? = some (.inr ci)) (hC : wr_fC ci = M'.1.cls ∧ ci < 9) (hlen : (wr_ent [.ref j, a1, a2, a3, a4]).length ≤ M'.2.2.1) (hcat : (st.map fun v => v.category).sum ≤ 8) {v : Value} (hV : wr_E l d' M' [.ref j, a1, a2, a3, a4] sh I L R (some v) I' L' R') (kk : wr_V l d M (pc + 3) ls (v :: st) sh I' L' R' mc ms Q) : wr_V l d M pc ls (a4 :: a3 :: a2 :: a1 :: .ref j :: st) sh I L R mc ms Q := wv_callV (as := [a1, a2, a3, a4]) hw hl hd hdd (Nat.zero_le _) (Nat.zero_le _) rfl hsh hC hlen rfl hcat hV (fun v sh2 I2 L2 R2 h => by obtain ⟨rfl, rfl, rfl, rfl, rfl⟩ := h; exact kk)
theorem wv_v4u {j ci : Nat} {a1 a2 a3 a4 : Value} (hw : wr_MV M' 4) (hl : wr_lk M.1.cls idx M') (hd : decode M.2.1 pc = .ok (.invokevirtual idx, 3)) (hdd : d' + 1 ≤ d) (hsh : sh[j]? = some (.inr ci)) (hC : wr_fC ci = M'.1.cls ∧ ci < 9) (hlen : (wr_ent [.ref j, a1, a2, a3, a4]).length ≤ M'.2.2.1) (hcat : (st.map fun v => v.category).sum ≤ 8) (hV : wr_E l d' M' [.ref j, a1, a2, a3, a4] sh I L R none I' L' R') (kk : wr_V l d M (pc + 3) ls st sh I' L' R' mc ms Q) : wr_V l d M pc ls (a4 :: a3 :: a2 :: a1 :: .ref j :: st) sh I L R mc ms Q := wv_callV (as := [a1, a2, a3, a4]) hw hl hd hdd (Nat.zero_le _) (Nat.zero_le _) rfl hsh hC hlen rfl hcat hV (fun v sh2 I2 L2 R2 h => by obtain ⟨rfl, rfl, rfl, rfl, rfl⟩ := h; exact kk)
theorem wv_v5 {j ci : Nat} {a1 a2 a3 a4 a5 : Value} (hw : wr_MV M' 5) (hl : wr_lk M.1.cls idx M') (hd : decode M.2.1 pc = .ok (.invokevirtual idx, 3)) (hdd : d' + 1 ≤ d) (hsh : sh[j]? = some (.inr ci)) (hC : wr_fC ci = M'.1.cls ∧ ci < 9) (hlen : (wr_ent [.ref j, a1, a2, a3, a4, a5]).length ≤ M'.2.2.1) (hcat : (st.map fun v => v.category).sum ≤ 8) (hV : wr_P l d' M' [.ref j, a1, a2, a3, a4, a5] sh I L R Q') (kk : ∀ v sh' I' L' R', Q' v sh' I' L' R' → wr_V l d M (pc + 3) ls (v.toList ++ st) sh' I' L' R' mc ms Q) : wr_V l d M pc ls (a5 :: a4 :: a3 :: a2 :: a1 :: .ref j :: st) sh I L R mc ms Q := wv_callV (as := [a1, a2, a3, a4, a5]) hw hl hd hdd (Nat.zero_le _) (Nat.zero_le _) rfl hsh hC hlen rfl hcat hV kk
theorem wv_v5e {j ci : Nat} {a1 a2 a3 a4 a5 : Value} (hw : wr_MV M' 5) (hl : wr_lk M.1.cls idx M') (hd : decode M.2.1 pc = .ok (.invokevirtual idx, 3)) (hdd : d' + 1 ≤ d) (hsh : sh[j]? = some (.inr ci)) (hC : wr_fC ci = M'.1.cls ∧ ci < 9) (hlen : (wr_ent [.ref j, a1, a2, a3, a4, a5]).length ≤ M'.2.2.1) (hcat : (st.map fun v => v.category).sum ≤ 8) {v : Value} (hV : wr_E l d' M' [.ref j, a1, a2, a3, a4, a5] sh I L R (some v) I' L' R') (kk : wr_V l d M (pc + 3) ls (v :: st) sh I' L' R' mc ms Q) : wr_V l d M pc ls (a5 :: a4 :: a3 :: a2 :: a1 :: .ref j :: st) sh I L R mc ms Q := wv_callV (as := [a1, a2, a3, a4, a5]) hw hl hd hdd (Nat.zero_le _) (Nat.zero_le _) rfl hsh hC hlen rfl hcat hV (fun v sh2 I2 L2 R2 h => by obtain ⟨rfl, rfl, rfl, rfl, rfl⟩ := h; exact kk)
theorem wv_v5u {j ci : Nat} {a1 a2 a3 a4 a5 : Value} (hw : wr_MV M' 5) (hl : wr_lk M.1.cls idx M') (hd : decode M.2.1 pc = .ok (.invokevirtual idx, 3)) (hdd : d' + 1 ≤ d) (hsh : sh[j]? = some (.inr ci)) (hC : wr_fC ci = M'.1.cls ∧ ci < 9) (hlen : (wr_ent [.ref j, a1, a2, a3, a4, a5]).length ≤ M'.2.2.1) (hcat : (st.map fun v => v.category).sum ≤ 8) (hV : wr_E l d' M' [.ref j, a1, a2, a3, a4, a5] sh I L R none I' L' R') (kk : wr_V l d M (pc + 3) ls st sh I' L' R' mc ms Q) : wr_V l d M pc ls (a5 :: a4 :: a3 :: a2 :: a1 :: .ref j :: st) sh I L R mc ms Q := wv_callV (as := [a1, a2, a3, a4, a5]) hw hl hd hdd (Nat.zero_le _) (Nat.zero_le _) rfl hsh hC hlen rfl hcat hV (fun v sh2 I2 L2 R2 h => by obtain ⟨rfl, rfl, rfl, rfl, rfl⟩ := h; exact kk)
theorem wv_s1 {a1 : Value} (hw : wr_MS M' 1) (hl : wr_lk M.1.cls idx M') (hd : decode M.2.1 pc = .ok (.invokestatic idx, 3)) (hdd : d' + 1 ≤ d) (hlen : (wr_ent [a1]).length ≤ M'.2.2.1) (hcat : (st.map fun v => v.category).sum ≤ 8) (hV : wr_P l d' M' [a1] sh I L R Q') (kk : ∀ v sh' I' L' R', Q' v sh' I' L' R' → wr_V l d M (pc + 3) ls (v.toList ++ st) sh' I' L' R' mc ms Q) : wr_V l d M pc ls (a1 :: st) sh I L R mc ms Q := wv_callS (as := [a1]) hw hl hd hdd (Nat.zero_le _) (Nat.zero_le _) rfl hlen rfl hcat hV kk
theorem wv_s1e {a1 : Value} (hw : wr_MS M' 1) (hl : wr_lk M.1.cls idx M') (hd : decode M.2.1 pc = .ok (.invokestatic idx, 3)) (hdd : d' + 1 ≤ d) (hlen : (wr_ent [a1]).length ≤ M'.2.2.1) (hcat : (st.map fun v => v.category).sum ≤ 8) {v : Value} (hV : wr_E l d' M' [a1] sh I L R (some v) I' L' R') (kk : wr_V l d M (pc + 3) ls (v :: st) sh I' L' R' mc ms Q) : wr_V l d M pc ls (a1 :: st) sh I L R mc ms Q := wv_callS (as := [a1]) hw hl hd hdd (Nat.zero_le _) (Nat.zero_le _) rfl hlen rfl hcat hV (fun v sh2 I2 L2 R2 h => by obtain ⟨rfl, rfl, rfl, rfl, rfl⟩ := h; exact kk)
theorem wv_s2 {a1 a2 : Value} (hw : wr_MS M' 2) (hl : wr_lk M.1.cls idx M') (hd : decode M.2.1 pc = .ok (.invokestatic idx, 3)) (hdd : d' + 1 ≤ d) (hlen : (wr_ent [a1, a2]).length ≤ M'.2.2.1) (hcat : (st.map fun v => v.category).sum ≤ 8) (hV : wr_P l d' M' [a1, a2] sh I L R Q') (kk : ∀ v sh' I' L' R', Q' v sh' I' L' R' → wr_V l d M (pc + 3) ls (v.toList ++ st) sh' I' L' R' mc ms Q) : wr_V l d M pc ls (a2 :: a1 :: st) sh I L R mc ms Q := wv_callS (as := [a1, a2]) hw hl hd hdd (Nat.zero_le _) (Nat.zero_le _) rfl hlen rfl hcat hV kk
theorem wv_s2e {a1 a2 : Value} (hw : wr_MS M' 2) (hl : wr_lk M.1.cls idx M') (hd : decode M.2.1 pc = .ok (.invokestatic idx, 3)) (hdd : d' + 1 ≤ d) (hlen : (wr_ent [a1, a2]).length ≤ M'.2.2.1) (hcat : (st.map fun v => v.category).sum ≤ 8) {v : Value} (hV : wr_E l d' M' [a1, a2] sh I L R (some v) I' L' R') (kk : wr_V l d M (pc + 3) ls (v :: st) sh I' L' R' mc ms Q) : wr_V l d M pc ls (a2 :: a1 :: st) sh I L R mc ms Q := wv_callS (as := [a1, a2]) hw hl hd hdd (Nat.zero_le _) (Nat.zero_le _) rfl hlen rfl hcat hV (fun v sh2 I2 L2 R2 h => by obtain ⟨rfl, rfl, rfl, rfl, rfl⟩ := h; exact kk)
theorem wv_s3 {a1 a2 a3 : Value} (hw : wr_MS M' 3) (hl : wr_lk M.1.cls idx M') (hd : decode M.2.1 pc = .ok (.invokestatic idx, 3)) (hdd : d' + 1 ≤ d) (hlen : (wr_ent [a1, a2, a3]).length ≤ M'.2.2.1) (hcat : (st.map fun v => v.category).sum ≤ 8) (hV : wr_P l d' M' [a1, a2, a3] sh I L R Q') (kk : ∀ v sh' I' L' R', Q' v sh' I' L' R' → wr_V l d M (pc + 3) ls (v.toList ++ st) sh' I' L' R' mc ms Q) : wr_V l d M pc ls (a3 :: a2 :: a1 :: st) sh I L R mc ms Q := wv_callS (as := [a1, a2, a3]) hw hl hd hdd (Nat.zero_le _) (Nat.zero_le _) rfl hlen rfl hcat hV kk
theorem wv_s3e {a1 a2 a3 : Value} (hw : wr_MS M' 3) (hl : wr_lk M.1.cls idx M') (hd : decode M.2.1 pc = .ok (.invokestatic idx, 3)) (hdd : d' + 1 ≤ d) (hlen : (wr_ent [a1, a2, a3]).length ≤ M'.2.2.1) (hcat : (st.map fun v => v.category).sum ≤ 8) {v : Value} (hV : wr_E l d' M' [a1, a2, a3] sh I L R (some v) I' L' R') (kk : wr_V l d M (pc + 3) ls (v :: st) sh I' L' R' mc ms Q) : wr_V l d M pc ls (a3 :: a2 :: a1 :: st) sh I L R mc ms Q := wv_callS (as := [a1, a2, a3]) hw hl hd hdd (Nat.zero_le _) (Nat.zero_le _) rfl hlen rfl hcat hV (fun v sh2 I2 L2 R2 h => by obtain ⟨rfl, rfl, rfl, rfl, rfl⟩ := h; exact kk)
theorem wv_s4 {a1 a2 a3 a4 : Value} (hw : wr_MS M' 4) (hl : wr_lk M.1.cls idx M') (hd : decode M.2.1 pc = .ok (.invokestatic idx, 3)) (hdd : d' + 1 ≤ d) (hlen : (wr_ent [a1, a2, a3, a4]).length ≤ M'.2.2.1) (hcat : (st.map fun v => v.category).sum ≤ 8) (hV : wr_P l d' M' [a1, a2, a3, a4] sh I L R Q') (kk : ∀ v sh' I' L' R', Q' v sh' I' L' R' → wr_V l d M (pc + 3) ls (v.toList ++ st) sh' I' L' R' mc ms Q) : wr_V l d M pc ls (a4 :: a3 :: a2 :: a1 :: st) sh I L R mc ms Q := wv_callS (as := [a1, a2, a3, a4]) hw hl hd hdd (Nat.zero_le _) (Nat.zero_le _) rfl hlen rfl hcat hV kk
theorem wv_s4e {a1 a2 a3 a4 : Value} (hw : wr_MS M' 4) (hl : wr_lk M.1.cls idx M') (hd : decode M.2.1 pc = .ok (.invokestatic idx, 3)) (hdd : d' + 1 ≤ d) (hlen : (wr_ent [a1, a2, a3, a4]).length ≤ M'.2.2.1) (hcat : (st.map fun v => v.category).sum ≤ 8) {v : Value} (hV : wr_E l d' M' [a1, a2, a3, a4] sh I L R (some v) I' L' R') (kk : wr_V l d M (pc + 3) ls (v :: st) sh I' L' R' mc ms Q) : wr_V l d M pc ls (a4 :: a3 :: a2 :: a1 :: st) sh I L R mc ms Q := wv_callS (as := [a1, a2, a3, a4]) hw hl hd hdd (Nat.zero_le _) (Nat.zero_le _) rfl hlen rfl hcat hV (fun v sh2 I2 L2 R2 h => by obtain ⟨rfl, rfl, rfl, rfl, rfl⟩ := h; exact kk)
/-- Math.min -/
theorem wv_min {x y : Int32} (hl : Cond.methodLink M.1.cls idx Lib.Math.min.name ∈ wr_TG) (hstat : Cond.static Lib.Math.min.name ∈ wr_TG) (hini : Cond.initialized "java/lang/Math" ∈ wr_TG) (hcode : Cond.code Lib.Math.min.name Lib.Math.min.code 2 (some .int) ∈ wr_TG) (hd : decode M.2.1 pc = .ok (.invokestatic idx, 3)) (hdd : 1 ≤ d) (hcat : (st.map fun v => v.category).sum ≤ 8) (k : wr_V l d M (pc + 3) ls (.int (if y < x then y else x) :: st) sh I L R mc ms Q) : wr_V l d M pc ls (.int y :: .int x :: st) sh I L R mc ms Q := by
  intro Z p e Rm s m args below meth c H locs cells slots mT sT la X
  have b1 := X.2.2.2.2.2.2.1
  have b2 := X.2.2.2.2.2.2.2.1
  have b3 := X.2.2.2.2.2.2.2.2.1
  have b4 := X.2.2.2.2.2.2.2.2.2
  have r1 := X.1.2.2.2.2.2.2.2.1
  have r2 := X.1.2.2.2.2.2.2.2.2
  have hts := X.2.1.1.1
  exact va_mmin X.1.1 X.1.2.1 (X.1.2.2.2.1.trans X.2.2.2.2.2.1.1.symm) X.1.2.2.2.2.1 (hts _ hl args) (hts _ hstat args) (hts _ hini args) (hts _ hcode args) (by omega) (by rw [wr_catsum]; omega) (by omega) (by omega) hd (k Z p e Rm s m args below meth c H locs cells slots mT sT la X)
end WrArity
