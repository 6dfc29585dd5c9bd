/-! fields and arrays -/
def wr_CK (ci : Nat) : Prop := vwCl[ci]? = some (wr_fC ci, wr_fT ci, wr_nf ci) ∧ (∀ w ∈ u_ws (wr_fC ci) (wr_fT ci) (wr_nf ci), w ∈ wr_TG) ∧ (∀ k, k < wr_nf ci → parseFieldDescriptor (wr_fT ci k).2.2.1 = some (wr_ty ci k)) ∧ (∀ a, a < wr_nf ci → ∀ b, b < wr_nf ci → a ≠ b → (wr_fT ci a).2.1 ≠ (wr_fT ci b).2.1)
theorem wr_ck0 : wr_CK 0 := ⟨rfl, by decide +kernel, tyX0_ok, nmX0⟩
theorem wr_ck1 : wr_CK 1 := ⟨rfl, by decide +kernel, tyX1_ok, nmX1⟩
theorem wr_ck2 : wr_CK 2 := ⟨rfl, by decide +kernel, tyX2_ok, nmX2⟩
theorem wr_ck3 : wr_CK 3 := ⟨rfl, by decide +kernel, tyX3_ok, nmX3⟩
theorem wr_ck4 : wr_CK 4 := ⟨rfl, by decide +kernel, tyX4_ok, nmX4⟩
theorem wr_ck5 : wr_CK 5 := ⟨rfl, by decide +kernel, tyX5_ok, nmX5⟩
theorem wr_ck6 : wr_CK 6 := ⟨rfl, by decide +kernel, tyX6_ok, nmX6⟩
theorem wr_ck7 : wr_CK 7 := ⟨rfl, by decide +kernel, tyX7_ok, nmX7⟩
theorem wr_ck8 : wr_CK 8 := ⟨rfl, by decide +kernel, tyX8_ok, nmX8⟩
theorem wr_ck {ci : Nat} (h : ci < 9) : wr_CK ci := by
  match ci, h with
  | 0, _ => exact wr_ck0
  | 1, _ => exact wr_ck1
  | 2, _ => exact wr_ck2
  | 3, _ => exact wr_ck3
  | 4, _ => exact wr_ck4
  | 5, _ => exact wr_ck5
  | 6, _ => exact wr_ck6
  | 7, _ => exact wr_ck7
  | 8, _ => exact wr_ck8
def wr_FL (own : String) (idx ci k : Nat) : Prop := ci < 9 ∧ k < wr_nf ci ∧ (Cond.fieldLink own idx (wr_fT ci k).1 (wr_fT ci k).2.1 (wr_fT ci k).2.2.1 ∈ wr_TG ∨ ∃ host, Cond.fieldLinkNest own idx (wr_fT ci k).1 (wr_fT ci k).2.1 (wr_fT ci k).2.2.1 host ∈ wr_TN)
