/-! the law from its entry -/
theorem z_start {I I' : wr_TI} {L : wr_TL} (h1 : ∃ c a b d, rgV I L 3 (gE c a b d)) (h2 : I 4 3 = 2) (h3 : ∀ k, I 1 k = 0) (h4 : I 17 9 = 0) (h5 : I 17 10 = -1) (h6 : I 18 6 = 0) (h7 : I 18 7 = 0) (h8 : I 18 8 = 1) (h9 : ∀ j k, j = 19 ∨ j = 20 ∨ j = 21 ∨ j = 29 → I j k = 0) (h10 : ∀ k, L 18 k = 0) (h11 : I 30 6 = 0) (h12 : I 30 7 = 0) (hb : ∀ b, b < 55 → I' b = I b)
    (hM : ∀ (c a b d : Nat → Int32) (B : Nat → FS), zM I' L (0, fun _ => 0) (0, -1) (gE c a b d) 2 (S0 (gE c a b d), (fun _ => 0), 1) (0, (fun _ => 0), (fun _ => 0), (fun _ => 0), (fun _ => 0)) 0 (fun _ => false) B) : zW 0 I' L R8 := by
  obtain ⟨c, a, b, d, hg⟩ := h1
  refine ⟨3, (0, fun _ => 0), (0, -1), gE c a b d, 2, (S0 (gE c a b d), (fun _ => 0), 1), (0, (fun _ => 0), (fun _ => 0), (fun _ => 0), (fun _ => 0)), 0, (fun _ => false), (fun _ => (S0 (gE c a b d), (fun _ => 0), 1)), ⟨R8_rc, Or.inl ⟨rfl, by decide +kernel, by decide +kernel⟩, ?_⟩, hM c a b d _, ?_⟩
  · refine ⟨⟨?_, by decide, fun i hi => absurd hi (Nat.not_lt_zero _)⟩, ⟨?_, ?_⟩, rgV_fr hg (fun a h1 h2 _ => hb a (by omega)) rfl, ?_, ⟨⟨fun s hs => ⟨fun z => (by cases z), fun _ => ⟨?_, ?_⟩⟩, fun s _ _ => ?_, fun s hs => ?_, ?_, ?_, fun s hs => ?_, fun s hs => ?_⟩, fun k hk => ?_, ?_⟩, ⟨?_, by decide, fun q hq => absurd hq (Nat.not_lt_zero _)⟩, ?_, fun b9 hb9 => ⟨?_, fun z => by cases z⟩⟩
    · rw [hb 1 (by omega), h3]; rfl
    · rw [hb 17 (by omega)]; exact h4
    · rw [hb 17 (by omega)]; exact h5
    · rw [hb (3 + 1) (by omega)]; exact h2
    · rw [hb (18 + 1) (by omega), h9 (18 + 1) s (Or.inl rfl)]; rfl
    · exact rok_0
    · rw [hb (18 + 1) (by omega), h9 (18 + 1) s (Or.inl rfl)]
    · rw [hb (18 + 2) (by omega), h9 (18 + 2) s (Or.inr (Or.inl rfl))]; rfl
    · rw [hb 18 (by omega)]; exact h6
    · rw [hb 18 (by omega)]; exact h7
    · rw [h10, lb_0, hb (18 + 1) (by omega), h9 (18 + 1) s (Or.inl rfl)]; simp [isU]
    · rw [h10, lb_0, hb (18 + 1) (by omega), h9 (18 + 1) s (Or.inl rfl)]; simp
    · rw [hb (18 + 3) (by omega), h9 (18 + 3) k (Or.inr (Or.inr (Or.inl rfl)))]
    · rw [hb 18 (by omega)]; exact h8
    · rw [hb 30 (by omega), h11]; rfl
    · rw [hb 30 (by omega)]; exact h12
    · rw [hb 29 (by omega), h9 29 b9 (Or.inr (Or.inr (Or.inr rfl)))]; rfl
  · exact ⟨fun i hi => absurd hi (Nat.not_lt_zero _), fOK_0, fun f hf => absurd hf (Nat.not_lt_zero _), fun f hf => absurd hf (Nat.not_lt_zero _), ⟨by decide, by decide⟩, fun b9 _ z => by cases z⟩
set_option maxHeartbeats 4000000 in
set_option maxRecDepth 100000 in
theorem l_start {l : Launch} {I : wr_TI} (hz : zz 0 I L00 R00) : wr_V l 65 mL_law 0 [some (.ref 1000300), none, none, none] [] [] I L00 R00 100 6357 (fun v _ _ _ _ => v = some (.int 1)) := by
  refine wv_new (ci := 7) (j := 0) (sh' := SH.take 1) (mc' := 99) (ms' := 6345) (by decide) clL_7 ib7 it7 dL_law_0 rfl (by decide) (by decide +kernel) (hz _ (by decide) (by decide)) rfl rfl ?_
  refine wv_dup dL_law_3 rfl ?_
  refine wv_iQ (j := 0) (as := []) (mc' := 54) (ms' := 2336) (m2 := 45) (s2 := 4009) (d' := 4) oX7_init rfl kL_9 dL_law_4 (by decide) rfl rfl rfl (Nat.le_of_ble_eq_true rfl) rfl (Nat.le_of_ble_eq_true rfl) (n_wave (zz_mo hz (by decide))) (fun v x1 J K y q => ?_)
  obtain ⟨rfl, rfl, rfl, z1, h1, h2, h3, h4, h5, h6, h7, h8, h9, h10, h11, h12, h13⟩ := q
  refine wv_astore_n dL_law_7 (by decide) ?_
  refine wv_new (ci := 8) (j := 55) (sh' := SH.take 56) (mc' := 44) (ms' := 3927) (by decide) clL_10 ib8 it8 dL_law_8 (by decide +kernel) (by decide) (by decide +kernel) (z1 _ (by decide) (by decide)) rfl rfl ?_
  refine wv_dup dL_law_11 rfl ?_
  refine wv_iQ (j := 55) (as := []) (mc' := 44) (ms' := 3927) (m2 := 0) (s2 := 0) (d' := 1) oX8_init rfl kL_12 dL_law_12 (by decide) rfl rfl rfl (Nat.le_of_ble_eq_true rfl) rfl (Nat.le_of_ble_eq_true rfl) (n_model (fun k => (z1 55 (by decide) (by decide) k).1) (zz_mo z1 (by decide))) (fun v x1 J2 K2 y q => ?_)
  obtain ⟨rfl, rfl, rfl, rfl, g1, g2, g3⟩ := q
  refine wv_astore_n dL_law_15 (by decide) ?_
  refine wv_iconst (v := nI 0) dL_law_16 rfl ?_
  refine wv_istore_k (i := 3) dL_law_17 rfl (by decide) ?_
  exact wv_le (by simp [wr_leq, wr_s1, wr_s2, wr_wide]) (lz_loop (fun v _ _ _ _ => v = some (.int 1)) (fun _ _ _ => rfl) 4000 0 J2 _ R8 (by decide) (by decide) (z_start h1 h2 h3 h4 h5 h6 h7 h8 h9 h10 h11 h12 g1 g3))
theorem i32_nat (x : Int32) : Int32.ofNat x.toUInt32.toNat = x := by
  apply Int32.toBitVec_inj.mp
  simp [Int32.ofNat]
theorem st_ar {s : State} {A : Array Value} {ty : FieldType} (hp : ∀ C, ty ≠ .object C) (h : (Cond.arrayClass ty).before A s = true) : ∃ cA, ArrOfT s cA ty ∧ va_RA s cA ty := by
  obtain ⟨c, k, comp, h1, h2, h3⟩ := Cond.arrayClass_spec h
  refine ⟨c, fun n z => ⟨fun k9 h9 => (by cases h9), k, h2, comp, h3⟩, ?_⟩
  cases ty with
  | object C => exact absurd rfl (hp C)
  | _ => exact h1
theorem st_ao {s : State} {A : Array Value} {C : String} (h : (Cond.arrayOver (.object C)).before A s = true) : ∃ cA, ArrOfT s cA (.object C) ∧ va_RA s cA (.object C) := by
  obtain ⟨comp, c, k, h1, h2, h3, h4, h5⟩ := Cond.arrayOver_spec h
  exact ⟨c, fun n z => ⟨fun k9 h9 => (by cases h9), k, h3, comp, h4⟩, k, comp, h3, h4, h1, h5⟩
theorem tg_tb {w : Cond} (h : w ∈ wr_TG) : w ∈ lw_tbl := (List.mem_filter.mp h).1
theorem tn_tb {w : Cond} (h : w ∈ wr_TN) : w ∈ lw_tbl := List.mem_append_right _ (List.mem_filter.mp h).1
theorem ib_all {ci : Nat} (h : ci < 9) : Cond.instantiable (wr_fC ci) (wr_nf ci) ∈ wr_TG := by
  match ci, h with
  | 0, _ => exact ib0
  | 1, _ => exact ib1
  | 2, _ => exact ib2
  | 3, _ => exact ib3
  | 4, _ => exact ib4
  | 5, _ => exact ib5
  | 6, _ => exact ib6
  | 7, _ => exact ib7
  | 8, _ => exact ib8
theorem st_K {s : State} {A : Array Value} (hts : ∀ w ∈ lw_tbl, w.before A s = true) (hao : (Cond.arrayOver (.object RX0)).before A s = true) : ∃ (D : va_G) (cA : Nat → ClassId), ∀ (Z : wr_Z), Z.1 = D → Z.2.1 = cA → va_K Z.1 vwCl (wr_tys Z) s := by
  have h0 : ∀ ci : Nat, ∃ q : ClassId × (Nat → Nat), ci < 9 → u_Kn s (wr_fC ci) (wr_fT ci) (wr_nf ci) q.1 q.2 := by
    intro ci
    by_cases h : ci < 9
    · obtain ⟨cC, iS, hk⟩ := u_known hts (fun w hw => tg_tb ((wr_ck h).2.1 w hw)) (hts _ (tg_tb (ib_all h)))
      exact ⟨(cC, iS), fun _ => hk⟩
    · exact ⟨(default, fun _ => 0), fun z => absurd z h⟩
  obtain ⟨D, hD⟩ := Classical.axiomOfChoice h0
  have h1 : ∀ t : Nat, ∃ q : ClassId, t < 5 → ArrOfT s q (wr_at t) ∧ va_RA s q (wr_at t) := by
    intro t
    match t with
    | 0 => obtain ⟨q, hq⟩ := st_ar (ty := .int) (fun C h => (by cases h)) (hts _ (tg_tb aI)); exact ⟨q, fun _ => hq⟩
    | 1 => obtain ⟨q, hq⟩ := st_ar (ty := .byte) (fun C h => (by cases h)) (hts _ (tg_tb aB)); exact ⟨q, fun _ => hq⟩
    | 2 => obtain ⟨q, hq⟩ := st_ar (ty := .boolean) (fun C h => (by cases h)) (hts _ (tg_tb aZ)); exact ⟨q, fun _ => hq⟩
    | 3 => obtain ⟨q, hq⟩ := st_ar (ty := .long) (fun C h => (by cases h)) (hts _ (tg_tb aJ)); exact ⟨q, fun _ => hq⟩
    | 4 => obtain ⟨q, hq⟩ := st_ao hao; exact ⟨q, fun _ => hq⟩
    | t + 5 => exact ⟨default, fun z => absurd z (by omega)⟩
  obtain ⟨cA, hA⟩ := Classical.axiomOfChoice h1
  refine ⟨((fun k => (D k).1), fun k => (D k).2), cA, fun Z e1 e2 => ?_⟩
  rw [e1]
  refine ⟨fun k q hq => ?_, fun k q hq => ?_⟩
  · have hk : k < 9 := (List.getElem?_eq_some_iff.mp hq).1
    have := (wr_ck hk).1
    rw [this] at hq
    cases hq
    exact hD k hk
  · have hk : k < 5 := (List.getElem?_eq_some_iff.mp hq).1
    rw [wr_tyat Z hk] at hq
    cases hq
    rw [e2]
    exact hA k hk
def pK : List Nat := [9, 18, 27, 36, 46, 56, 70, 82, 96, 110, 127, 145, 163, 183, 203, 225, 249, 274, 299, 324, 352, 379]
def pP : List (List Nat) := [[0, 26, 34, 43, 52, 65, 76, 89, 102, 118, 135, 152, 171, 190, 211, 234, 258, 282, 306, 333, 359, 385], [26, 0, 35, 44, 53, 66, 77, 90, 103, 119, 136, 153, 172, 191, 212, 235, 259, 283, 307, 334, 360, 386], [34, 35, 0, 45, 54, 67, 78, 91, 104, 120, 137, 154, 173, 192, 213, 236, 260, 284, 308, 335, 361, 387], [43, 44, 45, 0, 55, 68, 79, 92, 105, 121, 138, 155, 174, 193, 214, 237, 261, 285, 309, 336, 362, 388], [52, 53, 54, 55, 0, 69, 80, 93, 106, 122, 139, 156, 175, 194, 215, 238, 262, 286, 310, 337, 363, 389], [65, 66, 67, 68, 69, 0, 81, 94, 107, 123, 140, 157, 176, 195, 216, 239, 263, 287, 311, 338, 364, 390], [76, 77, 78, 79, 80, 81, 0, 95, 108, 124, 141, 158, 177, 196, 217, 240, 264, 288, 312, 339, 365, 391], [89, 90, 91, 92, 93, 94, 95, 0, 109, 125, 142, 159, 178, 197, 218, 241, 265, 289, 313, 340, 366, 392], [102, 103, 104, 105, 106, 107, 108, 109, 0, 126, 143, 160, 179, 198, 219, 242, 266, 290, 314, 341, 367, 393], [118, 119, 120, 121, 122, 123, 124, 125, 126, 0, 144, 161, 180, 199, 220, 243, 267, 291, 315, 342, 368, 394], [135, 136, 137, 138, 139, 140, 141, 142, 143, 144, 0, 162, 181, 200, 221, 244, 268, 292, 316, 343, 369, 395], [152, 153, 154, 155, 156, 157, 158, 159, 160, 161, 162, 0, 182, 201, 222, 245, 269, 293, 317, 344, 370, 396], [171, 172, 173, 174, 175, 176, 177, 178, 179, 180, 181, 182, 0, 202, 223, 246, 270, 294, 318, 345, 371, 397], [190, 191, 192, 193, 194, 195, 196, 197, 198, 199, 200, 201, 202, 0, 224, 247, 271, 295, 319, 346, 372, 398], [211, 212, 213, 214, 215, 216, 217, 218, 219, 220, 221, 222, 223, 224, 0, 248, 272, 296, 320, 347, 373, 399], [234, 235, 236, 237, 238, 239, 240, 241, 242, 243, 244, 245, 246, 247, 248, 0, 273, 297, 321, 348, 374, 400], [258, 259, 260, 261, 262, 263, 264, 265, 266, 267, 268, 269, 270, 271, 272, 273, 0, 298, 322, 349, 375, 401], [282, 283, 284, 285, 286, 287, 288, 289, 290, 291, 292, 293, 294, 295, 296, 297, 298, 0, 323, 350, 376, 402], [306, 307, 308, 309, 310, 311, 312, 313, 314, 315, 316, 317, 318, 319, 320, 321, 322, 323, 0, 351, 377, 403], [333, 334, 335, 336, 337, 338, 339, 340, 341, 342, 343, 344, 345, 346, 347, 348, 349, 350, 351, 0, 378, 404], [359, 360, 361, 362, 363, 364, 365, 366, 367, 368, 369, 370, 371, 372, 373, 374, 375, 376, 377, 378, 0, 405], [385, 386, 387, 388, 389, 390, 391, 392, 393, 394, 395, 396, 397, 398, 399, 400, 401, 402, 403, 404, 405, 0]]
def pTs : List Nat := [412, 485, 486, 487, 492, 512, 517, 522, 527, 528, 529, 530, 532, 545, 567, 568, 569, 570, 571, 572, 578, 579]
abbrev NN : Cond := Jvm.Cond.and given_1 narrow_1
abbrev tmS (i : Nat) : Term := Term.string RX4 (wr_sp i)
set_option maxHeartbeats 4000000 in
set_option maxRecDepth 100000 in
theorem st_1 : ∀ i, i < 22 → (flatC NN)[pK.getD i 0]? = some (Cond.exactly (tmS i) "java/lang/String") := by decide +kernel
set_option maxHeartbeats 4000000 in
set_option maxRecDepth 100000 in
theorem st_2 : ∀ i, i < 22 → (flatC NN)[pK.getD i 0 + 1]? = some (Cond.eq (.field (tmS i) "java/lang/String" "coder" "B") (.int 0)) := by decide +kernel
set_option maxHeartbeats 4000000 in
set_option maxRecDepth 100000 in
theorem st_3 : ∀ i, i < 22 → (flatC NN)[pK.getD i 0 + 2]? = some (Cond.arrayOf (.field (tmS i) "java/lang/String" "value" "[B") .byte) := by decide +kernel
set_option maxHeartbeats 4000000 in
set_option maxRecDepth 100000 in
theorem st_4 : ∀ i, i < 22 → (flatC NN)[pK.getD i 0 + 3]? = some (Cond.eq (.length (.field (tmS i) "java/lang/String" "value" "[B")) (.int (Int32.ofNat (wr_sl.getD i 0)))) := by decide +kernel
set_option maxHeartbeats 4000000 in
set_option maxRecDepth 100000 in
theorem st_5 : ∀ i, i < 22 → ∀ j, j < wr_sl.getD i 0 → (flatC NN)[pK.getD i 0 + 4 + j]? = some (Cond.eq (.elem (.field (tmS i) "java/lang/String" "value" "[B") (.int (Int32.ofNat j))) (.int ((wr_sb.getD i []).getD j 0))) := by decide +kernel
set_option maxHeartbeats 4000000 in
set_option maxRecDepth 100000 in
theorem st_6 : ∀ i, i < 22 → ∀ j, j < 22 → i ≠ j → (flatC NN)[(pP.getD i []).getD j 0]? = some (Cond.not (Cond.eq (tmS i) (tmS j))) ∨ (flatC NN)[(pP.getD i []).getD j 0]? = some (Cond.not (Cond.eq (tmS j) (tmS i))) := by decide +kernel
set_option maxHeartbeats 4000000 in
set_option maxRecDepth 100000 in
theorem st_7 : ∀ i, i < 22 → tables_1[pTs.getD i 0]? = some (Cond.stringRef RX4 (wr_sp i) (wr_sx i)) := by decide +kernel
set_option maxHeartbeats 4000000 in
set_option maxRecDepth 100000 in
theorem st_8 : (flatC NN)[4]? = some (Cond.eq (.static "java/lang/String" "COMPACT_STRINGS" "Z") (.int 1)) := by decide +kernel
set_option maxHeartbeats 4000000 in
set_option maxRecDepth 100000 in
theorem st_9 : (flatC NN)[5]? = some (Cond.isRef (.static "jdk/internal/util/Preconditions" "SIOOBE_FORMATTER" "Ljava/util/function/BiFunction;")) := by decide +kernel
set_option maxHeartbeats 4000000 in
set_option maxRecDepth 100000 in
theorem st_10 : tables_1[426]? = some (Cond.laysStatic "java/lang/String" "COMPACT_STRINGS" "Z") ∧ tables_1[442]? = some (Cond.laysStatic "jdk/internal/util/Preconditions" "SIOOBE_FORMATTER" "Ljava/util/function/BiFunction;") ∧ tables_1[10]? = some (Cond.initialized "java/lang/String") ∧ tables_1[12]? = some (Cond.initialized "jdk/internal/util/Preconditions") ∧ tables_1[232]? = some (Cond.arrayOver (.object RX0)) := by decide +kernel
