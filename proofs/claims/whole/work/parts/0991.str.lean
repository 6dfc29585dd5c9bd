/-! string constants, the law's script, the JDK's length and charAt -/
section WrStr
variable {l : Launch} {d : Nat} {M : wr_M} {pc : Nat} {ls : List (Option Value)} {st : List Value} {sh : List wr_S} {I : wr_TI} {L : wr_TL} {R : wr_TR} {mc ms : Nat} {Q : wr_TQ}
theorem wv_ldcS {n i : Nat} (hc : M.1.cls = RX4) (hi : i < 22) (hn : wr_sp i = n) (hd : decode M.2.1 pc = .ok (.ldc n, 2)) (k : wr_V l d M (pc + 2) ls (.ref (1000000 + i) :: st) sh I L R mc ms Q) : wr_V l d M pc ls st sh I L R mc ms Q := by
  intro Z p e Rm s m args below meth c H locs cells slots mT sT la X
  subst hn
  exact va_ldcS X.1.1 X.1.2.1 (hc ▸ X.1.2.2.2.2.1) (X.2.1.2.2.2.2.2.1 i hi) hd (k Z p e Rm s m args below meth c H locs cells slots mT sT la X)
theorem wv_getSV {idx i : Nat} (hi : i < 22) (hl : Cond.fieldLink M.1.cls idx "java/lang/String" "value" "[B" ∈ wr_TG) (hd : decode M.2.1 pc = .ok (.getfield idx, 3)) (k : wr_V l d M (pc + 3) ls (.ref (1000100 + i) :: st) sh I L R mc ms Q) : wr_V l d M pc ls (.ref (1000000 + i) :: st) sh I L R mc ms Q := by
  intro Z p e Rm s m args below meth c H locs cells slots mT sT la X
  exact vk_getf X.1.1 X.1.2.1 ((X.2.1.2.2.2.2.1.1 i hi).2.2.1) X.2.2.2.2.1 X.1.2.2.2.2.1 (X.2.1.1.1 _ hl args) (fun _ h => h) hd (k Z p e Rm s m args below meth c H locs cells slots mT sT la X)
theorem wv_getSC {idx i : Nat} (hi : i < 22) (hl : Cond.fieldLink M.1.cls idx "java/lang/String" "coder" "B" ∈ wr_TG) (hd : decode M.2.1 pc = .ok (.getfield idx, 3)) (k : wr_V l d M (pc + 3) ls (.int 0 :: st) sh I L R mc ms Q) : wr_V l d M pc ls (.ref (1000000 + i) :: st) sh I L R mc ms Q := by
  intro Z p e Rm s m args below meth c H locs cells slots mT sT la X
  exact vk_getf X.1.1 X.1.2.1 ((X.2.1.2.2.2.2.1.1 i hi).2.1) X.2.2.2.2.1 X.1.2.2.2.2.1 (X.2.1.1.1 _ hl args) (fun _ h => h) hd (k Z p e Rm s m args below meth c H locs cells slots mT sT la X)
theorem wv_getsC {idx : Nat} (hl : Cond.fieldLink M.1.cls idx "java/lang/String" "COMPACT_STRINGS" "Z" ∈ wr_TG) (hd : decode M.2.1 pc = .ok (.getstatic idx, 3)) (k : wr_V l d M (pc + 3) ls (.int 1 :: st) sh I L R mc ms Q) : wr_V l d M pc ls st sh I L R mc ms Q := by
  intro Z p e Rm s m args below meth c H locs cells slots mT sT la X
  exact va_gets X.1.1 X.1.2.1 X.2.1.2.2.1 X.2.2.2.2.1 X.1.2.2.2.2.1 (X.2.1.1.1 _ hl args) (fun _ h => h) hd (k Z p e Rm s m args below meth c H locs cells slots mT sT la X)
theorem wv_getsQ {idx : Nat} (hl : Cond.fieldLink M.1.cls idx "jdk/internal/util/Preconditions" "SIOOBE_FORMATTER" "Ljava/util/function/BiFunction;" ∈ wr_TG) (hd : decode M.2.1 pc = .ok (.getstatic idx, 3)) (k1 : wr_V l d M (pc + 3) ls (.null :: st) sh I L R mc ms Q) (k2 : wr_V l d M (pc + 3) ls (.ref 1000200 :: st) sh I L R mc ms Q) : wr_V l d M pc ls st sh I L R mc ms Q := by
  intro Z p e Rm s m args below meth c H locs cells slots mT sT la X
  rcases X.2.1.2.2.2.1 with h | h
  · exact va_gets X.1.1 X.1.2.1 h X.2.2.2.2.1 X.1.2.2.2.2.1 (X.2.1.1.1 _ hl args) (fun _ h => h) hd (k1 Z p e Rm s m args below meth c H locs cells slots mT sT la X)
  · exact va_gets X.1.1 X.1.2.1 h X.2.2.2.2.1 X.1.2.2.2.2.1 (X.2.1.1.1 _ hl args) (fun _ h => h) hd (k2 Z p e Rm s m args below meth c H locs cells slots mT sT la X)
theorem wv_alenS {i : Nat} (hi : i < 22) (hd : decode M.2.1 pc = .ok (.arraylength, 1)) (k : wr_V l d M (pc + 1) ls (.int (nI (wr_sl.getD i 0)) :: st) sh I L R mc ms Q) : wr_V l d M pc ls (.ref (1000100 + i) :: st) sh I L R mc ms Q := by
  intro Z p e Rm s m args below meth c H locs cells slots mT sT la X
  exact va_tlen X.1.1 X.1.2.1 ((X.2.1.2.2.2.2.1.1 i hi).2.2.2) X.2.2.2.2.1 rfl hd (k Z p e Rm s m args below meth c H locs cells slots mT sT la X)
theorem wv_baldS {i j : Nat} (hi : i < 22) (hj : j < wr_sl.getD i 0) (hd : decode M.2.1 pc = .ok (.baload, 1)) (k : wr_V l d M (pc + 1) ls (.int ((wr_sb.getD i []).getD j 0) :: st) sh I L R mc ms Q) : wr_V l d M pc ls (.int (nI j) :: .ref (1000100 + i) :: st) sh I L R mc ms Q := by
  intro Z p e Rm s m args below meth c H locs cells slots mT sT la X
  have hm : wr_sl.getD i 0 < 2 ^ 31 := (show ∀ i, i < 22 → wr_sl.getD i 0 < 2 ^ 31 by decide) i hi
  exact va_tb X.1.1 X.1.2.1 ((X.2.1.2.2.2.2.1.1 i hi).2.2.2) X.2.2.2.2.1 (vp_in_nI hj hm) (v := .int ((wr_sb.getD i []).getD j 0)) (by rw [nI_clamp (by omega)]) hd (k Z p e Rm s m args below meth c H locs cells slots mT sT la X)
theorem wv_i2c {x : Int32} (hd : decode M.2.1 pc = .ok (.i2c, 1)) (k : wr_V l d M (pc + 1) ls (.int ((x.toUInt32 % 65536).toInt32) :: st) sh I L R mc ms Q) : wr_V l d M pc ls (.int x :: st) sh I L R mc ms Q := by
  intro Z p e Rm s m args below meth c H locs cells slots mT sT la X
  exact lv_i2c X.1.1 X.1.2.1 hd rfl (k Z p e Rm s m args below meth c H locs cells slots mT sT la X)
/-- the script's length, its ints -/
theorem wv_slen (hd : decode M.2.1 pc = .ok (.arraylength, 1)) (k : ∀ n, n ≤ 3072 → I 1000300 0 = nI n → wr_V l d M (pc + 1) ls (.int (nI n) :: st) sh I L R mc ms Q) : wr_V l d M pc ls (.ref 1000300 :: st) sh I L R mc ms Q := by
  intro Z p e Rm s m args below meth c H locs cells slots mT sT la X
  have hX := X.2.1.2.2.2.2.2.2.2.2
  have hb := X.2.1.2.2.2.2.2.2.2.1
  obtain ⟨scr, g1, -⟩ := id hX
  exact va_slen X.1.1 X.1.2.1 hX (Array.getElem?_eq_some_iff.mp g1).1 (Nat.not_le.mpr hb) X.2.2.2.2.1 hd (k (Z.2.2.2.2 0) X.2.1.2.2.2.2.2.2.1 (X.2.2.2.1.1.2 0) Z p e Rm s m args below meth c H locs cells slots mT sT la X)
theorem wv_sld {i n : Nat} (hn : n ≤ 3072) (hI : I 1000300 0 = nI n) (hi : i < n) (hd : decode M.2.1 pc = .ok (.iaload, 1)) (k : wr_V l d M (pc + 1) ls (.int (I 1000300 (i + 1)) :: st) sh I L R mc ms Q) : wr_V l d M pc ls (.int (nI i) :: .ref 1000300 :: st) sh I L R mc ms Q := by
  intro Z p e Rm s m args below meth c H locs cells slots mT sT la X
  have hX := X.2.1.2.2.2.2.2.2.2.2
  have hb := X.2.1.2.2.2.2.2.2.2.1
  obtain ⟨scr, g1, -⟩ := id hX
  have h0 := X.2.1.2.2.2.2.2.2.1
  have e0 : Int32.ofNat (Z.2.2.2.2 0) = Int32.ofNat n := (X.2.2.2.1.1.2 0).symm.trans hI
  have e1 : Z.2.2.2.2 0 = n := (nI_clamp (n := Z.2.2.2.2 0) (by omega)).symm.trans ((congrArg Int32.toNatClampNeg e0).trans (nI_clamp (by omega)))
  have := (k Z p e Rm s m args below meth c H locs cells slots mT sT la X)
  rw [X.2.2.2.1.1.2 (i + 1)] at this
  refine va_sld X.1.1 X.1.2.1 hX (Array.getElem?_eq_some_iff.mp g1).1 (Nat.not_le.mpr hb) X.2.2.2.2.1 (i := nI i) (by rw [e1]; exact vp_in_nI hi (by omega)) hd ?_
  rw [nI_clamp (by omega)]
  exact this
theorem wr_srecv {Z : wr_Z} {s : State} {H : Heap} {locs : List Loc} {i : Nat} {C : String} (hi : i < 22) (hC : C = "java/lang/String") (hT : wr_Tab Z s) (hS : va_S (wr_A Z) s.heap H locs) : ∃ cellB : Cell, H[Z.2.2.2.1 (1000000 + i)]? = some cellB ∧ cellB.vm.isStatics = false ∧ s.vm.findClass C = some cellB.cls := by
  subst hC
  exact vk_recv (adK := fun i => Z.2.2.2.1 (1000000 + i)) hT.2.2.2.2.1 hi hS
theorem wv_t0e {d' : Nat} {M' : wr_M} {I' : wr_TI} {L' : wr_TL} {R' : wr_TR} {idx i : Nat} {v : Value} (hi : i < 22) (hC : M'.1.cls = "java/lang/String") (hw : wr_MV M' 0) (hl : wr_lk M.1.cls idx M') (hd : decode M.2.1 pc = .ok (.invokevirtual idx, 3)) (hdd : d' + 1 ≤ d) (hlen : (wr_ent [.ref (1000000 + i)]).length ≤ M'.2.2.1) (hcat : (st.map fun v => v.category).sum ≤ 8) (hV : wr_E l d' M' [.ref (1000000 + i)] sh I L R (some v) I' L' R') (kk : wr_V l d M (pc + 3) ls (v :: st) sh I' L' R' mc ms Q) : wr_V l d M pc ls (.ref (1000000 + i) :: st) sh I L R mc ms Q :=
  wv_callV0 (j := 1000000 + i) (as := []) (st := st) hw hl hd hdd (Nat.zero_le _) (Nat.zero_le _) rfl (fun Z s H locs hT _ hS => wr_srecv hi hC hT hS) hlen rfl hcat hV (fun v sh2 I2 L2 R2 h => by obtain ⟨rfl, rfl, rfl, rfl, rfl⟩ := h; exact kk)
theorem wv_t1e {d' : Nat} {M' : wr_M} {I' : wr_TI} {L' : wr_TL} {R' : wr_TR} {idx i : Nat} {a1 v : Value} (hi : i < 22) (hC : M'.1.cls = "java/lang/String") (hw : wr_MV M' 1) (hl : wr_lk M.1.cls idx M') (hd : decode M.2.1 pc = .ok (.invokevirtual idx, 3)) (hdd : d' + 1 ≤ d) (hlen : (wr_ent [.ref (1000000 + i), a1]).length ≤ M'.2.2.1) (hcat : (st.map fun v => v.category).sum ≤ 8) (hV : wr_E l d' M' [.ref (1000000 + i), a1] sh I L R (some v) I' L' R') (kk : wr_V l d M (pc + 3) ls (v :: st) sh I' L' R' mc ms Q) : wr_V l d M pc ls (a1 :: .ref (1000000 + i) :: st) sh I L R mc ms Q :=
  wv_callV0 (j := 1000000 + i) (as := [a1]) (st := st) hw hl hd hdd (Nat.zero_le _) (Nat.zero_le _) rfl (fun Z s H locs hT _ hS => wr_srecv hi hC hT hS) hlen rfl hcat hV (fun v sh2 I2 L2 R2 h => by obtain ⟨rfl, rfl, rfl, rfl, rfl⟩ := h; exact kk)
end WrStr
set_option maxRecDepth 20000 in
theorem gJ0_9 : Cond.fieldLink RJ0 9 "java/lang/String" "value" "[B" ∈ wr_TG := wr_in 1523 rfl rfl
set_option maxRecDepth 20000 in
theorem gJ0_15 : Cond.fieldLink RJ0 15 "java/lang/String" "coder" "B" ∈ wr_TG := wr_in 1524 rfl rfl
set_option maxRecDepth 20000 in
theorem gJ0_38 : Cond.fieldLink RJ0 38 "java/lang/String" "COMPACT_STRINGS" "Z" ∈ wr_TG := wr_in 425 rfl rfl
set_option maxRecDepth 20000 in
theorem gJ0_1053 : Cond.fieldLink RJ0 1053 "jdk/internal/util/Preconditions" "SIOOBE_FORMATTER" "Ljava/util/function/BiFunction;" ∈ wr_TG := wr_in 441 rfl rfl
set_option maxHeartbeats 4000000 in
set_option maxRecDepth 100000 in
theorem cJ0_coder {l : Launch} {d : Nat} {sh : List wr_S} {I : wr_TI} {L : wr_TL} {R : wr_TR} {i : Nat} (hi : i < 22) : wr_E l d mJ0_coder_7d493 [.ref (1000000 + i)] sh I L R (some (.int 0)) I L R := by
  show wr_V l d mJ0_coder_7d493 0 [some (.ref (1000000 + i))] [] sh I L R 0 0 _
  refine wv_getsC gJ0_38 dJ0_coder_7d493_0 ?_
  refine wv_if_eq (tgt := 13) dJ0_coder_7d493_3 (by decide) (fun h => absurd h (by decide)) (fun h => ?_)
  refine wv_aload_n dJ0_coder_7d493_6 rfl ?_
  refine wv_getSC hi gJ0_15 dJ0_coder_7d493_7 ?_
  refine wv_goto (tgt := 14) dJ0_coder_7d493_10 (by decide) ?_
  refine wv_zret rfl rfl dJ0_coder_7d493_14 ?_
  exact ⟨rfl, rfl, rfl, rfl, rfl⟩
set_option maxHeartbeats 4000000 in
set_option maxRecDepth 100000 in
theorem cJ0_isLatin1 {l : Launch} {d : Nat} {sh : List wr_S} {I : wr_TI} {L : wr_TL} {R : wr_TR} {i : Nat} (hi : i < 22) : wr_E l d mJ0_isLatin1_aae02 [.ref (1000000 + i)] sh I L R (some (.int 1)) I L R := by
  show wr_V l d mJ0_isLatin1_aae02 0 [some (.ref (1000000 + i))] [] sh I L R 0 0 _
  refine wv_getsC gJ0_38 dJ0_isLatin1_aae02_0 ?_
  refine wv_if_eq (tgt := 17) dJ0_isLatin1_aae02_3 (by decide) (fun h => absurd h (by decide)) (fun h => ?_)
  refine wv_aload_n dJ0_isLatin1_aae02_6 rfl ?_
  refine wv_getSC hi gJ0_15 dJ0_isLatin1_aae02_7 ?_
  refine wv_if_ne (tgt := 17) dJ0_isLatin1_aae02_10 (by decide) (fun h => absurd rfl h) (fun h => ?_)
  refine wv_iconst (v := 1) dJ0_isLatin1_aae02_13 (by decide) ?_
  refine wv_goto (tgt := 18) dJ0_isLatin1_aae02_14 (by decide) ?_
  refine wv_zret rfl rfl dJ0_isLatin1_aae02_18 ?_
  exact ⟨rfl, rfl, rfl, rfl, rfl⟩
theorem wr_sl_shr : ∀ i, i < 22 → nI (wr_sl.getD i 0) >>> ((0 : Int32) &&& 31) = nI (wr_sl.getD i 0) := by decide
set_option maxHeartbeats 4000000 in
set_option maxRecDepth 100000 in
theorem cJ0_length {l : Launch} {d : Nat} {sh : List wr_S} {I : wr_TI} {L : wr_TL} {R : wr_TR} {i : Nat} (hi : i < 22) (hd : 1 ≤ d) : wr_E l d mJ0_length_8abf5 [.ref (1000000 + i)] sh I L R (some (.int (nI (wr_sl.getD i 0)))) I L R := by
  show wr_V l d mJ0_length_8abf5 0 [some (.ref (1000000 + i))] [] sh I L R 0 0 _
  refine wv_aload_n dJ0_length_8abf5_0 rfl ?_
  refine wv_getSV hi gJ0_9 dJ0_length_8abf5_1 ?_
  refine wv_alenS hi dJ0_length_8abf5_4 ?_
  refine wv_aload_n dJ0_length_8abf5_5 rfl ?_
  refine wv_t0e (d' := 0) hi rfl oJ0_coder_7d493 kJ0_335 dJ0_length_8abf5_6 (by omega) (Nat.le_of_ble_eq_true rfl) (Nat.le_of_ble_eq_true rfl) (cJ0_coder hi) ?_
  refine wv_ishr dJ0_length_8abf5_9 ?_
  rw [wr_sl_shr i hi]
  refine wv_iret rfl dJ0_length_8abf5_10 ?_
  exact ⟨rfl, rfl, rfl, rfl, rfl⟩
set_option maxHeartbeats 4000000 in
set_option maxRecDepth 100000 in
theorem cJ3_checkIndex {l : Launch} {d : Nat} {sh : List wr_S} {I : wr_TI} {L : wr_TL} {R : wr_TR} {a n : Int32} {v : Value} (hv : v = .null ∨ v = .ref 1000200) (h1 : ¬ a < 0) (h2 : a < n) : wr_E l d mJ3_checkIndex_8e157 [.int a, .int n, v] sh I L R (some (.int a)) I L R := by
  have : wr_V l d mJ3_checkIndex_8e157 0 [some (.int a), some (.int n)] [] sh I L R 0 0 (wr_EQ (some (.int a)) sh I L R) := by
    refine wv_iload_n dJ3_checkIndex_8e157_0 rfl ?_
    refine wv_if_lt (tgt := 9) dJ3_checkIndex_8e157_1 (by decide) (fun h => absurd h h1) (fun h => ?_)
    refine wv_iload_n dJ3_checkIndex_8e157_4 rfl ?_
    refine wv_iload_n dJ3_checkIndex_8e157_5 rfl ?_
    refine wv_icmp_lt (tgt := 16) dJ3_checkIndex_8e157_6 (by decide) (fun h => ?_) (fun h => absurd h2 h)
    refine wv_iload_n dJ3_checkIndex_8e157_16 rfl ?_
    refine wv_iret rfl dJ3_checkIndex_8e157_17 ?_
    exact ⟨rfl, rfl, rfl, rfl, rfl⟩
  rcases hv with rfl | rfl
  · exact wv_ls (fun i v hi => by match i, hi with | 0, hi => exact hi | 1, hi => exact hi | i + 2, hi => simp at hi) this
  · exact wv_ls (fun i v hi => by match i, hi with | 0, hi => exact hi | 1, hi => exact hi | i + 2, hi => simp at hi) this
set_option maxHeartbeats 4000000 in
set_option maxRecDepth 100000 in
theorem cJ0_checkIndex {l : Launch} {d : Nat} {sh : List wr_S} {I : wr_TI} {L : wr_TL} {R : wr_TR} {a n : Int32} (h1 : ¬ a < 0) (h2 : a < n) (hd : 1 ≤ d) : wr_E l d mJ0_checkIndex_df160 [.int a, .int n] sh I L R none I L R := by
  show wr_V l d mJ0_checkIndex_df160 0 [some (.int a), some (.int n)] [] sh I L R 0 0 _
  refine wv_iload_n dJ0_checkIndex_df160_0 rfl ?_
  refine wv_iload_n dJ0_checkIndex_df160_1 rfl ?_
  refine wv_getsQ gJ0_1053 dJ0_checkIndex_df160_2 ?_ ?_
  · refine wv_s3e (d' := 0) oJ3_checkIndex_8e157 kJ0_1059 dJ0_checkIndex_df160_5 (by omega) (Nat.le_of_ble_eq_true rfl) (Nat.le_of_ble_eq_true rfl) (cJ3_checkIndex (Or.inl rfl) h1 h2) ?_
    refine wv_pop dJ0_checkIndex_df160_8 rfl ?_
    refine wv_ret (x := ()) rfl dJ0_checkIndex_df160_9 ?_
    exact ⟨rfl, rfl, rfl, rfl, rfl⟩
  · refine wv_s3e (d' := 0) oJ3_checkIndex_8e157 kJ0_1059 dJ0_checkIndex_df160_5 (by omega) (Nat.le_of_ble_eq_true rfl) (Nat.le_of_ble_eq_true rfl) (cJ3_checkIndex (Or.inr rfl) h1 h2) ?_
    refine wv_pop dJ0_checkIndex_df160_8 rfl ?_
    refine wv_ret (x := ()) rfl dJ0_checkIndex_df160_9 ?_
    exact ⟨rfl, rfl, rfl, rfl, rfl⟩
/-- the char at a place of a word -/
def wr_chr (i j : Nat) : Int32 := (wr_sb.getD i []).getD j 0
theorem wr_sb_ok : ∀ i, i < 22 → ∀ j, j < wr_sl.getD i 0 → ((((wr_chr i j) &&& 255).toUInt32 % 65536).toInt32 = wr_chr i j ∧ narrow .char (.int (wr_chr i j)) = .int (wr_chr i j)) := by decide +kernel
set_option maxHeartbeats 4000000 in
set_option maxRecDepth 100000 in
theorem cJ1_charAt {l : Launch} {d : Nat} {sh : List wr_S} {I : wr_TI} {L : wr_TL} {R : wr_TR} {i j : Nat} (hi : i < 22) (hj : j < wr_sl.getD i 0) (hd : 2 ≤ d) : wr_E l d mJ1_charAt_3b067 [.ref (1000100 + i), .int (nI j)] sh I L R (some (.int (wr_chr i j))) I L R := by
  have hm : wr_sl.getD i 0 < 2 ^ 31 := (show ∀ i, i < 22 → wr_sl.getD i 0 < 2 ^ 31 by decide) i hi
  show wr_V l d mJ1_charAt_3b067 0 [some (.ref (1000100 + i)), some (.int (nI j))] [] sh I L R 0 0 _
  refine wv_iload_n dJ1_charAt_3b067_0 rfl ?_
  refine wv_aload_n dJ1_charAt_3b067_1 rfl ?_
  refine wv_alenS hi dJ1_charAt_3b067_2 ?_
  refine wv_callS (as := [.int (nI j), .int (nI (wr_sl.getD i 0))]) (d' := 1) oJ0_checkIndex_df160 kJ1_9 dJ1_charAt_3b067_3 (by omega) (Nat.zero_le _) (Nat.zero_le _) rfl (Nat.le_of_ble_eq_true rfl) rfl (Nat.le_of_ble_eq_true rfl) (cJ0_checkIndex (nI_pos (by omega)) (nI_lt hj hm) (by omega)) (fun v sh2 I2 L2 R2 h => ?_)
  obtain ⟨rfl, rfl, rfl, rfl, rfl⟩ := h
  refine wv_aload_n dJ1_charAt_3b067_6 rfl ?_
  refine wv_iload_n dJ1_charAt_3b067_7 rfl ?_
  refine wv_baldS hi hj dJ1_charAt_3b067_8 ?_
  refine wv_sipush (v := 255) dJ1_charAt_3b067_9 (by decide) ?_
  refine wv_iand dJ1_charAt_3b067_12 ?_
  refine wv_i2c dJ1_charAt_3b067_13 ?_
  have e := wr_sb_ok i hi j hj
  show wr_V l d mJ1_charAt_3b067 _ _ (.int ((((wr_chr i j) &&& 255).toUInt32 % 65536).toInt32) :: _) _ _ _ _ _ _ _
  rw [e.1]
  refine wv_zret rfl e.2 dJ1_charAt_3b067_14 ?_
  exact ⟨rfl, rfl, rfl, rfl, rfl⟩
set_option maxHeartbeats 4000000 in
set_option maxRecDepth 100000 in
theorem cJ0_charAt {l : Launch} {d : Nat} {sh : List wr_S} {I : wr_TI} {L : wr_TL} {R : wr_TR} {i j : Nat} (hi : i < 22) (hj : j < wr_sl.getD i 0) (hd : 3 ≤ d) : wr_E l d mJ0_charAt_5068e [.ref (1000000 + i), .int (nI j)] sh I L R (some (.int (wr_chr i j))) I L R := by
  have e := wr_sb_ok i hi j hj
  show wr_V l d mJ0_charAt_5068e 0 [some (.ref (1000000 + i)), some (.int (nI j))] [] sh I L R 0 0 _
  refine wv_aload_n dJ0_charAt_5068e_0 rfl ?_
  refine wv_t0e (d' := 0) hi rfl oJ0_isLatin1_aae02 kJ0_492 dJ0_charAt_5068e_1 (by omega) (Nat.le_of_ble_eq_true rfl) (Nat.le_of_ble_eq_true rfl) (cJ0_isLatin1 hi) ?_
  refine wv_if_eq (tgt := 16) dJ0_charAt_5068e_4 (by decide) (fun h => absurd h (by decide)) (fun h => ?_)
  refine wv_aload_n dJ0_charAt_5068e_7 rfl ?_
  refine wv_getSV hi gJ0_9 dJ0_charAt_5068e_8 ?_
  refine wv_iload_n dJ0_charAt_5068e_11 rfl ?_
  refine wv_s2e (d' := 2) oJ1_charAt_3b067 kJ0_495 dJ0_charAt_5068e_12 (by omega) (Nat.le_of_ble_eq_true rfl) (Nat.le_of_ble_eq_true rfl) (cJ1_charAt hi hj (by omega)) ?_
  refine wv_zret rfl e.2 dJ0_charAt_5068e_15 ?_
  exact ⟨rfl, rfl, rfl, rfl, rfl⟩
