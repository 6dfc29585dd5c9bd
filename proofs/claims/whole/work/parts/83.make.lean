/-! what is made by the two constructors -/
def z0 (I : wr_TI) (L : wr_TL) (R : wr_TR) (j : Nat) : Prop := ∀ k, I j k = 0 ∧ L j k = 0 ∧ R j k = 0
def zz (n : Nat) (I : wr_TI) (L : wr_TL) (R : wr_TR) : Prop := ∀ j, n ≤ j → j < 1000 → z0 I L R j
theorem zz_mo {n m : Nat} {I : wr_TI} {L : wr_TL} {R : wr_TR} (h : zz n I L R) (hm : n ≤ m) : zz m I L R := fun j h1 h2 => h j (Nat.le_trans hm h1) h2
theorem zz_R {n j k x : Nat} {I : wr_TI} {L : wr_TL} {R : wr_TR} (h : zz n I L R) (hj : j < n) : zz n I L (wr_uR R j k x) := fun i h1 h2 q => by
  have e : wr_uR R j k x i = R i := wr_uR_ne (by omega)
  rw [e]
  exact h i h1 h2 q
theorem zz_I {n j k : Nat} {x : Int32} {I : wr_TI} {L : wr_TL} {R : wr_TR} (h : zz n I L R) (hj : j < n) : zz n (wr_uI I j k x) L R := fun i h1 h2 q => by
  have e : wr_uI I j k x i = I i := wr_uI_ne (by omega)
  rw [e]
  exact h i h1 h2 q
theorem zz_g {n : Nat} {I I' : wr_TI} {L L' : wr_TL} {R : wr_TR} (h : zz n I L R) (hI : ∀ b, n ≤ b → I' b = I b) (hL : ∀ b, n ≤ b → L' b = L b) : zz n I' L' R := fun i h1 h2 q => by
  rw [hI i h1, hL i h1]
  exact h i h1 h2 q
theorem aI : Cond.arrayClass (wr_at 0) ∈ wr_TG := wr_in 66 rfl rfl
theorem aB : Cond.arrayClass (wr_at 1) ∈ wr_TG := wr_in 38 rfl rfl
theorem aZ : Cond.arrayClass (wr_at 2) ∈ wr_TG := wr_in 273 rfl rfl
theorem aJ : Cond.arrayClass (wr_at 3) ∈ wr_TG := wr_in 274 rfl rfl
theorem oJi : Cond.instanceMethod Lib.objectInit ∈ wr_TG := wr_in 22 rfl rfl
theorem oJc : Cond.code Lib.objectInit ⟨#[0xb1]⟩ 1 none ∈ wr_TG := wr_in 23 rfl rfl
set_option maxRecDepth 20000 in
theorem oLX7 : Cond.methodLink RX7 3 Lib.objectInit ∈ wr_TG := wr_in 21 rfl rfl
set_option maxRecDepth 20000 in
theorem oLX6 : Cond.methodLink RX6 3 Lib.objectInit ∈ wr_TG := wr_in 29 rfl rfl
set_option maxRecDepth 20000 in
theorem oLX5 : Cond.methodLink RX5 3 Lib.objectInit ∈ wr_TG := wr_in 44 rfl rfl
set_option maxRecDepth 20000 in
theorem oLX2 : Cond.methodLink RX2 3 Lib.objectInit ∈ wr_TG := wr_in 50 rfl rfl
set_option maxRecDepth 20000 in
theorem oLX4 : Cond.methodLink RX4 3 Lib.objectInit ∈ wr_TG := wr_in 157 rfl rfl
set_option maxRecDepth 20000 in
theorem oLX0 : Cond.methodLink RX0 3 Lib.objectInit ∈ wr_TG := wr_in 199 rfl rfl
set_option maxRecDepth 20000 in
theorem oLX1 : Cond.methodLink RX1 3 Lib.objectInit ∈ wr_TG := wr_in 238 rfl rfl
set_option maxRecDepth 20000 in
theorem oLX3 : Cond.methodLink RX3 1 Lib.objectInit ∈ wr_TG := wr_in 280 rfl rfl
set_option maxRecDepth 20000 in
theorem oLX8 : Cond.methodLink RX8 1 Lib.objectInit ∈ wr_TG := wr_in 904 rfl rfl
set_option maxRecDepth 20000 in
theorem clL_7 : Cond.classLink RL 7 (wr_fC 7) ∈ wr_TG := wr_in 16 rfl rfl
set_option maxRecDepth 20000 in
theorem clL_10 : Cond.classLink RL 10 (wr_fC 8) ∈ wr_TG := wr_in 899 rfl rfl
set_option maxRecDepth 20000 in
theorem clX7_9 : Cond.classLink RX7 9 (wr_fC 6) ∈ wr_TG := wr_in 24 rfl rfl
set_option maxRecDepth 20000 in
theorem clX7_16 : Cond.classLink RX7 16 (wr_fC 5) ∈ wr_TG := wr_in 39 rfl rfl
set_option maxRecDepth 20000 in
theorem clX7_26 : Cond.classLink RX7 26 (wr_fC 4) ∈ wr_TG := wr_in 152 rfl rfl
set_option maxRecDepth 20000 in
theorem clX7_35 : Cond.classLink RX7 35 (wr_fC 0) ∈ wr_TG := wr_in 194 rfl rfl
set_option maxRecDepth 20000 in
theorem clX7_53 : Cond.classLink RX7 53 (wr_fC 1) ∈ wr_TG := wr_in 233 rfl rfl
set_option maxRecDepth 20000 in
theorem clX7_60 : Cond.classLink RX7 60 (wr_fC 3) ∈ wr_TG := wr_in 275 rfl rfl
set_option maxRecDepth 20000 in
theorem clX5_9 : Cond.classLink RX5 9 (wr_fC 2) ∈ wr_TG := wr_in 45 rfl rfl
set_option maxRecDepth 20000 in
theorem ib7 : Cond.instantiable (wr_fC 7) (wr_nf 7) ∈ wr_TG := wr_in 17 rfl rfl
set_option maxRecDepth 20000 in
theorem ib6 : Cond.instantiable (wr_fC 6) (wr_nf 6) ∈ wr_TG := wr_in 25 rfl rfl
set_option maxRecDepth 20000 in
theorem ib5 : Cond.instantiable (wr_fC 5) (wr_nf 5) ∈ wr_TG := wr_in 40 rfl rfl
set_option maxRecDepth 20000 in
theorem ib2 : Cond.instantiable (wr_fC 2) (wr_nf 2) ∈ wr_TG := wr_in 46 rfl rfl
set_option maxRecDepth 20000 in
theorem ib4 : Cond.instantiable (wr_fC 4) (wr_nf 4) ∈ wr_TG := wr_in 153 rfl rfl
set_option maxRecDepth 20000 in
theorem ib0 : Cond.instantiable (wr_fC 0) (wr_nf 0) ∈ wr_TG := wr_in 195 rfl rfl
set_option maxRecDepth 20000 in
theorem ib1 : Cond.instantiable (wr_fC 1) (wr_nf 1) ∈ wr_TG := wr_in 234 rfl rfl
set_option maxRecDepth 20000 in
theorem ib3 : Cond.instantiable (wr_fC 3) (wr_nf 3) ∈ wr_TG := wr_in 276 rfl rfl
set_option maxRecDepth 20000 in
theorem ib8 : Cond.instantiable (wr_fC 8) (wr_nf 8) ∈ wr_TG := wr_in 900 rfl rfl
set_option maxRecDepth 20000 in
theorem it7 : Cond.initialized (wr_fC 7) ∈ wr_TG := wr_in 1 rfl rfl
set_option maxRecDepth 20000 in
theorem it6 : Cond.initialized (wr_fC 6) ∈ wr_TG := wr_in 2 rfl rfl
set_option maxRecDepth 20000 in
theorem it5 : Cond.initialized (wr_fC 5) ∈ wr_TG := wr_in 3 rfl rfl
set_option maxRecDepth 20000 in
theorem it2 : Cond.initialized (wr_fC 2) ∈ wr_TG := wr_in 4 rfl rfl
set_option maxRecDepth 20000 in
theorem it4 : Cond.initialized (wr_fC 4) ∈ wr_TG := wr_in 5 rfl rfl
set_option maxRecDepth 20000 in
theorem it0 : Cond.initialized (wr_fC 0) ∈ wr_TG := wr_in 6 rfl rfl
set_option maxRecDepth 20000 in
theorem it1 : Cond.initialized (wr_fC 1) ∈ wr_TG := wr_in 7 rfl rfl
set_option maxRecDepth 20000 in
theorem it3 : Cond.initialized (wr_fC 3) ∈ wr_TG := wr_in 8 rfl rfl
set_option maxRecDepth 20000 in
theorem it8 : Cond.initialized (wr_fC 8) ∈ wr_TG := wr_in 9 rfl rfl
theorem wv_iE {l : Launch} {d d' : Nat} {M M' : wr_M} {pc : Nat} {ls : List (Option Value)} {st st0 : List Value} {sh sh' : List wr_S} {I I' : wr_TI} {L L' : wr_TL} {R R' : wr_TR} {mc ms mc' ms' m2 s2 : Nat} {Q : wr_TQ} {as : List Value} {idx n j : Nat} (hw : wr_MI M' n) (hr : M'.2.2.2 = none) (hl : wr_lk M.1.cls idx M') (hd : decode M.2.1 pc = .ok (.invokespecial idx, 3)) (hdd : d' + 1 ≤ d) (hm : m2 + mc' = mc) (hs : s2 + ms' = ms) (hn : as.length = n) (hlen : (wr_ent (.ref j :: as)).length ≤ M'.2.2.1) (hst : st0 = as.reverse ++ .ref j :: st) (hcat : (st.map fun v => v.category).sum ≤ 8)
    (hV : wr_V l d' M' 0 (wr_ent (.ref j :: as)) [] sh I L R mc' ms' (wr_EQ none sh' I' L' R')) (k9 : wr_V l d M (pc + 3) ls st sh' I' L' R' m2 s2 Q) : wr_V l d M pc ls st0 sh I L R mc ms Q := wv_callI hw hr hl hd hdd (by omega) (by omega) hn hlen hst hcat hV (fun v x1 x2 x3 x4 q => by
    obtain ⟨rfl, rfl, rfl, rfl, rfl⟩ := q
    rw [show mc - mc' = m2 by omega, show ms - ms' = s2 by omega]
    exact k9)
theorem wv_iQ {l : Launch} {d d' : Nat} {M M' : wr_M} {pc : Nat} {ls : List (Option Value)} {st st0 : List Value} {sh : List wr_S} {I : wr_TI} {L : wr_TL} {R : wr_TR} {mc ms mc' ms' m2 s2 : Nat} {Q Q' : wr_TQ} {as : List Value} {idx n j : Nat} (hw : wr_MI M' n) (hr : M'.2.2.2 = none) (hl : wr_lk M.1.cls idx M') (hd : decode M.2.1 pc = .ok (.invokespecial idx, 3)) (hdd : d' + 1 ≤ d) (hm : m2 + mc' = mc) (hs : s2 + ms' = ms) (hn : as.length = n) (hlen : (wr_ent (.ref j :: as)).length ≤ M'.2.2.1) (hst : st0 = as.reverse ++ .ref j :: st) (hcat : (st.map fun v => v.category).sum ≤ 8)
    (hV : wr_V l d' M' 0 (wr_ent (.ref j :: as)) [] sh I L R mc' ms' Q') (k9 : ∀ v x1 x2 x3 x4, Q' v x1 x2 x3 x4 → wr_V l d M (pc + 3) ls (v.toList ++ st) x1 x2 x3 x4 m2 s2 Q) : wr_V l d M pc ls st0 sh I L R mc ms Q := wv_callI hw hr hl hd hdd (by omega) (by omega) hn hlen hst hcat hV (fun v x1 x2 x3 x4 q => by
    rw [show mc - mc' = m2 by omega, show ms - ms' = s2 by omega]
    exact k9 v x1 x2 x3 x4 q)
def isH (sh : List wr_S) (R : wr_TR) (t : Nat) : Prop := sh[t]? = some (.inr 5) ∧ sh[t + 1]? = some (.inr 2) ∧ sh[t + 2]? = some (.inl (0, 260)) ∧ sh[t + 3]? = some (.inl (0, 30)) ∧ sh[t + 4]? = some (.inl (0, 6)) ∧ sh[t + 5]? = some (.inl (0, 6)) ∧ sh[t + 6]? = some (.inl (0, 6)) ∧ R t 0 = t + 1 + 1 ∧ R t 1 = t + 4 + 1 ∧ R t 2 = t + 5 + 1 ∧ R t 3 = t + 6 + 1 ∧ R (t + 1) 0 = t + 2 + 1 ∧ R (t + 1) 1 = t + 3 + 1
set_option maxHeartbeats 4000000 in
set_option maxRecDepth 100000 in
theorem hL_clear {l : Launch} {I : wr_TI} {L : wr_TL} {R : wr_TR} {sh : List wr_S} (t : Nat) (hg : isH sh R t) : wr_E l 0 mX2_clear [.ref (t + 1)] sh I L R none (lcI I t) L R := by
  obtain ⟨q2, q3, q4, q5, q6, q7, q8, r1, r2, r3, r4, r5, r6⟩ := id hg
  refine wv_pad 0 ?_
  show wr_V l 0 mX2_clear 0 [some (.ref (t + 1))] [] sh I L R 0 0 _
  refine wv_aload_n dX2_clear_0 rfl ?_
  refine wv_iconst (v := 0) dX2_clear_1 (by decide) ?_
  refine wv_putI fX2_18 dX2_clear_2 rfl rfl rfl rfl (by first | assumption | rfl) ?_
  refine wv_aload_n dX2_clear_5 rfl ?_
  refine wv_iconst (v := 0) dX2_clear_6 (by decide) ?_
  refine wv_putI fX2_22 dX2_clear_7 rfl rfl rfl rfl (by first | assumption | rfl) ?_
  refine wv_ret (x := ()) rfl dX2_clear_10 ?_
  exact ⟨rfl, rfl, rfl, rfl, rfl⟩
set_option maxHeartbeats 4000000 in
set_option maxRecDepth 100000 in
theorem hL_add {l : Launch} {I : wr_TI} {L : wr_TL} {R : wr_TR} {sh : List wr_S} (t n : Nat) (x : Int32) (hg : isH sh R t) (hl : I (t + 1) 2 = nI n) (hn : n < 260) : wr_E l 0 mX2_add [.ref (t + 1), .int x] sh I L R none (laI I t n x) L R := by
  obtain ⟨q2, q3, q4, q5, q6, q7, q8, r1, r2, r3, r4, r5, r6⟩ := id hg
  refine wv_pad 0 ?_
  show wr_V l 0 mX2_add 0 [some (.ref (t + 1)), some (.int x)] [] sh I L R 0 0 _
  refine wv_aload_n dX2_add_0 rfl ?_
  refine wv_getI fX2_18 dX2_add_1 rfl (by first | assumption | rfl) ?_
  refine wv_if_lt (tgt := 39) dX2_add_4 (by decide) (fun h4 => absurd h4 (by rw [hl]; exact nI_pos (by omega))) (fun h4 => ?_)
  refine wv_aload_n dX2_add_7 rfl ?_
  refine wv_getI fX2_18 dX2_add_8 rfl (by first | assumption | rfl) ?_
  refine wv_aload_n dX2_add_11 rfl ?_
  refine wv_getR fX2_9 dX2_add_12 rfl (by first | assumption | rfl) (by first | exact hR _ _ _ rfl | assumption) ?_
  refine wv_alen dX2_add_15 (t := 0) (by decide) (by first | assumption | rfl) ?_
  refine wv_icmp_ge (tgt := 39) dX2_add_16 (by decide) (fun h16 => absurd h16 (by rw [hl]; exact nI_ge (b := 260) (by omega) (by omega))) (fun h16 => ?_)
  refine wv_aload_n dX2_add_19 rfl ?_
  refine wv_getR fX2_9 dX2_add_20 rfl (by first | assumption | rfl) (by first | exact hR _ _ _ rfl | assumption) ?_
  refine wv_aload_n dX2_add_23 rfl ?_
  refine wv_getI fX2_18 dX2_add_24 rfl (by first | assumption | rfl) ?_
  rw [hl]
  refine wv_iload_n dX2_add_27 rfl ?_
  refine wv_iastN dX2_add_28 (by first | assumption | rfl) (by omega) (by decide) ?_
  refine wv_aload_n dX2_add_29 rfl ?_
  refine wv_dup dX2_add_30 rfl ?_
  refine wv_getI fX2_18 dX2_add_31 rfl (by first | assumption | rfl) ?_
  refine wv_iconst (v := 1) dX2_add_34 (by decide) ?_
  refine wv_iadd dX2_add_35 ?_
  refine wv_putI fX2_18 dX2_add_36 rfl rfl rfl rfl (by first | assumption | rfl) ?_
  refine wv_ret (x := ()) rfl dX2_add_39 ?_
  refine ⟨rfl, rfl, ?_, rfl, rfl⟩
  have e : wr_uI I (t + 2) n x (t + 1) 2 = nI n := by simp [wr_uI, hl]
  unfold laI
  rw [e]
  congr 1
  exact nI_1 n
set_option maxHeartbeats 4000000 in
set_option maxRecDepth 100000 in
theorem hL_unit {l : Launch} {I : wr_TI} {L : wr_TL} {R : wr_TR} {sh : List wr_S} (t n : Nat) (x : Int32) (hg : isH sh R t) (hl : I (t + 1) 2 = nI n) (hn : n < 260) : wr_E l 1 mX2_addUnit [.ref (t + 1), .int x] sh I L R none (luI I t n x) L R := by
  obtain ⟨q2, q3, q4, q5, q6, q7, q8, r1, r2, r3, r4, r5, r6⟩ := id hg
  refine wv_pad 0 ?_
  show wr_V l 1 mX2_addUnit 0 [some (.ref (t + 1)), some (.int x)] [] sh I L R 0 0 _
  refine wv_aload_n dX2_addUnit_0 rfl ?_
  refine wv_iload_n dX2_addUnit_1 rfl ?_
  refine wv_v1u oX2_add kX2_25 dX2_addUnit_2 (by omega) (by first | assumption | rfl) ⟨rfl, by decide⟩ (Nat.le_of_ble_eq_true rfl) (Nat.le_of_ble_eq_true rfl) (hL_add t n _ hg hl hn) ?_
  refine wv_aload_n dX2_addUnit_5 rfl ?_
  refine wv_dup dX2_addUnit_6 rfl ?_
  refine wv_getI fX2_22 dX2_addUnit_7 rfl (by first | assumption | rfl) ?_
  refine wv_iconst (v := 1) dX2_addUnit_10 (by decide) ?_
  refine wv_iadd dX2_addUnit_11 ?_
  refine wv_putI fX2_22 dX2_addUnit_12 rfl rfl rfl rfl (by first | assumption | rfl) ?_
  refine wv_ret (x := ()) rfl dX2_addUnit_15 ?_
  refine ⟨rfl, rfl, ?_, rfl, rfl⟩
  have e : laI I t n x (t + 1) 3 = I (t + 1) 3 := by simp [laI, wr_uI]
  unfold luI
  rw [e]
set_option maxHeartbeats 4000000 in
set_option maxRecDepth 100000 in
theorem hR_empty {l : Launch} {I : wr_TI} {L : wr_TL} {R : wr_TR} {sh : List wr_S} (t : Nat) (hg : isH sh R t) : wr_P l 2 mX5_empty [.ref t] sh I L R (fun v s' I' L' R' => v = none ∧ s' = sh ∧ R' = R ∧ rgV I' L' t (gE (I (t + 2)) (I (t + 4)) (I (t + 5)) (I (t + 6))) ∧ I' (t + 1) 3 = 2 ∧ (∀ b, b ≠ t → b ≠ t + 1 → b ≠ t + 2 → I' b = I b) ∧ ∀ b, b ≠ t → L' b = L b) := by
  obtain ⟨q2, q3, q4, q5, q6, q7, q8, r1, r2, r3, r4, r5, r6⟩ := id hg
  refine wv_pad 0 ?_
  show wr_V l 2 mX5_empty 0 [some (.ref t)] [] sh I L R 0 0 _
  refine wv_aload_n dX5_empty_0 rfl ?_
  refine wv_iconst (v := 0) dX5_empty_1 (by decide) ?_
  refine wv_putI fX5_31 dX5_empty_2 rfl rfl rfl rfl (by first | assumption | rfl) ?_
  refine wv_aload_n dX5_empty_5 rfl ?_
  refine wv_bipush (v := 24) dX5_empty_6 (by decide) ?_
  refine wv_putI fX5_35 dX5_empty_8 rfl rfl rfl rfl (by first | assumption | rfl) ?_
  refine wv_aload_n dX5_empty_11 rfl ?_
  refine wv_lconst (v := 0) dX5_empty_12 (by decide) ?_
  refine wv_putL fX5_38 dX5_empty_13 rfl rfl rfl rfl (by first | assumption | rfl) ?_
  refine wv_aload_n dX5_empty_16 rfl ?_
  refine wv_lconst (v := 0) dX5_empty_17 (by decide) ?_
  refine wv_putL fX5_42 dX5_empty_18 rfl rfl rfl rfl (by first | assumption | rfl) ?_
  refine wv_aload_n dX5_empty_21 rfl ?_
  refine wv_lconst (v := 0) dX5_empty_22 (by decide) ?_
  refine wv_putL fX5_45 dX5_empty_23 rfl rfl rfl rfl (by first | assumption | rfl) ?_
  refine wv_aload_n dX5_empty_26 rfl ?_
  refine wv_iconst (v := 2) dX5_empty_27 (by decide) ?_
  refine wv_putI fX5_48 dX5_empty_28 rfl rfl rfl rfl (by first | assumption | rfl) ?_
  refine wv_aload_n dX5_empty_31 rfl ?_
  refine wv_iconst (v := 4) dX5_empty_32 (by decide) ?_
  refine wv_putI fX5_51 dX5_empty_33 rfl rfl rfl rfl (by first | assumption | rfl) ?_
  refine wv_aload_n dX5_empty_36 rfl ?_
  refine wv_iconst (v := 2) dX5_empty_37 (by decide) ?_
  refine wv_putI fX5_54 dX5_empty_38 rfl rfl rfl rfl (by first | assumption | rfl) ?_
  refine wv_aload_n dX5_empty_41 rfl ?_
  refine wv_iconst (v := 0) dX5_empty_42 (by decide) ?_
  refine wv_putI fX5_57 dX5_empty_43 rfl rfl rfl rfl (by first | assumption | rfl) ?_
  refine wv_aload_n dX5_empty_46 rfl ?_
  refine wv_getR fX5_12 dX5_empty_47 rfl (by first | assumption | rfl) (by first | exact hR _ _ _ rfl | assumption) ?_
  refine wv_v0u oX2_clear kX5_60 dX5_empty_50 (by omega) (by first | assumption | rfl) ⟨rfl, by decide⟩ (Nat.le_of_ble_eq_true rfl) (Nat.le_of_ble_eq_true rfl) (hL_clear t hg) ?_
  refine wv_aload_n dX5_empty_53 rfl ?_
  refine wv_getR fX5_12 dX5_empty_54 rfl (by first | assumption | rfl) (by first | exact hR _ _ _ rfl | assumption) ?_
  refine wv_sipush (v := 10000) dX5_empty_57 (by decide) ?_
  refine wv_v1u oX2_addUnit kX5_63 dX5_empty_60 (by omega) (by first | assumption | rfl) ⟨rfl, by decide⟩ (Nat.le_of_ble_eq_true rfl) (Nat.le_of_ble_eq_true rfl) (hL_unit t 0 _ hg (by simp [lcI, wr_uI]; rfl) (by omega)) ?_
  refine wv_aload_n dX5_empty_63 rfl ?_
  refine wv_getR fX5_12 dX5_empty_64 rfl (by first | assumption | rfl) (by first | exact hR _ _ _ rfl | assumption) ?_
  refine wv_iconst (v := 0) dX5_empty_67 (by decide) ?_
  refine wv_v1u oX2_addUnit kX5_63 dX5_empty_68 (by omega) (by first | assumption | rfl) ⟨rfl, by decide⟩ (Nat.le_of_ble_eq_true rfl) (Nat.le_of_ble_eq_true rfl) (hL_unit t 1 _ hg (by simp [luI, laI, lcI, wr_uI]) (by omega)) ?_
  refine wv_aload_n dX5_empty_71 rfl ?_
  refine wv_getR fX5_12 dX5_empty_72 rfl (by first | assumption | rfl) (by first | exact hR _ _ _ rfl | assumption) ?_
  refine wv_sipush (v := 20004) dX5_empty_75 (by decide) ?_
  refine wv_v1u oX2_add kX5_67 dX5_empty_78 (by omega) (by first | assumption | rfl) ⟨rfl, by decide⟩ (Nat.le_of_ble_eq_true rfl) (Nat.le_of_ble_eq_true rfl) (hL_add t 2 _ hg (by simp [luI, laI, lcI, wr_uI]) (by omega)) ?_
  refine wv_ret (x := ()) rfl dX5_empty_81 ?_
  refine ⟨rfl, rfl, rfl, ?_, ?_, fun b h1 h2 h3 => ?_, fun b h1 => ?_⟩
  · refine ⟨by simp [luI, laI, lcI, wr_uI, gE, gN]; rfl, by show (6 : Nat) ≤ 24; decide, by show (24 : Nat) ≤ 40; decide, fun s => ?_, fun s => ?_, fun s => ?_, fun s _ => ⟨rfl, rfl, rfl⟩, ?_, ?_, ?_, ?_, by show (0 : Nat) ≤ 6; decide, ?_, by show (1 : Int32) ≤ 2 ∧ (2 : Int32) ≤ 9; decide, ?_, by show (0 : Int32) ≤ 4 ∧ (4 : Int32) ≤ 20; decide, ?_, by show (1 : Nat) ≤ 2 ∧ (2 : Nat) ≤ 9; decide, ?_, by show (0 : Int32) ≤ 0 ∧ (0 : Int32) ≤ 9; decide, ?_, ?_, by show (3 : Nat) ≤ 260; decide, wfl_E _ _ _ _⟩
    · simp [wr_uL, lb_0]; rfl
    · simp [wr_uL, lb_0]; rfl
    · simp [wr_uL, lb_0]; rfl
    · funext d; simp [luI, laI, lcI, wr_uI, gE]
    · funext d; simp [luI, laI, lcI, wr_uI, gE]
    · funext d; simp [luI, laI, lcI, wr_uI, gE]
    · simp [luI, laI, lcI, wr_uI, gE]; rfl
    · simp [luI, laI, lcI, wr_uI, gE, gUp]
    · simp [luI, laI, lcI, wr_uI, gE, gRe]
    · simp [luI, laI, lcI, wr_uI, gE, gSe]; rfl
    · simp [luI, laI, lcI, wr_uI, gE, gSh]
    · funext d; simp [luI, laI, lcI, wr_uI, gE, gC]; grind
    · simp [luI, laI, lcI, wr_uI, gE, gLn]
  · simp [luI, laI, lcI, wr_uI]
  · funext d
    simp [luI, laI, lcI, wr_uI, h1, h2, h3]
  · funext d
    simp [wr_uL, h1]
def lR (R : wr_TR) (t : Nat) : wr_TR := wr_uR (wr_uR R t 0 (t + 1 + 1)) t 1 (t + 2 + 1)
set_option maxHeartbeats 4000000 in
set_option maxRecDepth 100000 in
theorem n_law {l : Launch} {I : wr_TI} {L : wr_TL} {R : wr_TR} (t : Nat) (ht : t < 950) (s0 s1 s2 : List wr_S) (e0 : s0 ++ [.inl (0, 260)] = s1) (e1 : s1 ++ [.inl (0, 30)] = s2) (n0 : s0.length = t + 1) (n1 : s1.length = t + 2) (y0 : s0[t]? = some (.inr 2)) (y1 : s1[t]? = some (.inr 2)) (y2 : s2[t]? = some (.inr 2)) (hz : zz (t + 1) I L R) : wr_V l 1 mX2_init 0 (wr_ent [.ref t]) [] s0 I L R 2 290 (wr_EQ none s2 I L (lR R t)) := by
  show wr_V l 1 mX2_init 0 [some (.ref t)] [] s0 I L R 2 290 _
  refine wv_aload_n dX2_init_0 rfl ?_
  refine wv_oinit oLX2 oJi oJc dX2_init_1 (by decide) (Nat.le_of_ble_eq_true rfl) ?_
  refine wv_aload_n dX2_init_4 rfl ?_
  refine wv_sipush (v := 260) dX2_init_5 (by decide) ?_
  refine wv_newa (t := 0) (n := 260) (j := t + 1) (sh' := s1) (mc' := 1) (ms' := 30) (by decide) rfl aI dX2_init_8 (by decide +kernel) (by decide) n0 (by omega) e0 (hz _ (by omega) (by omega)) rfl rfl ?_
  refine wv_putFR (ci := 2) (k := 0) (by decide) (by decide) gX2_9 dX2_init_10 rfl rfl rfl rfl y1 ?_
  replace hz := zz_R (j := t) (k := 0) (x := t + 1 + 1) hz (by omega)
  refine wv_aload_n dX2_init_13 rfl ?_
  refine wv_bipush (v := 30) dX2_init_14 (by decide) ?_
  refine wv_newa (t := 0) (n := 30) (j := t + 2) (sh' := s2) (mc' := 0) (ms' := 0) (by decide) rfl aI dX2_init_16 (by decide +kernel) (by decide) n1 (by omega) e1 (hz _ (by omega) (by omega)) rfl rfl ?_
  refine wv_putFR (ci := 2) (k := 1) (by decide) (by decide) gX2_15 dX2_init_18 rfl rfl rfl rfl y2 ?_
  replace hz := zz_R (j := t) (k := 1) (x := t + 2 + 1) hz (by omega)
  refine wv_ret (x := ()) rfl dX2_init_21 ?_
  exact ⟨rfl, rfl, rfl, rfl, rfl⟩
def cR (R : wr_TR) (t : Nat) : wr_TR := wr_uR (wr_uR (wr_uR (wr_uR R t 0 (t + 1 + 1)) t 1 (t + 2 + 1)) t 2 (t + 3 + 1)) t 3 (t + 4 + 1)
def cI (I : wr_TI) (t : Nat) : wr_TI := wr_uI I t 8 1
set_option maxHeartbeats 4000000 in
set_option maxRecDepth 100000 in
theorem n_crowd {l : Launch} {I : wr_TI} {L : wr_TL} {R : wr_TR} (t : Nat) (ht : t < 900) (s0 s1 s2 s3 s4 : List wr_S) (e0 : s0 ++ [.inl (0, 40)] = s1) (e1 : s1 ++ [.inl (0, 40)] = s2) (e2 : s2 ++ [.inl (0, 3)] = s3) (e3 : s3 ++ [.inl (0, 7)] = s4) (n0 : s0.length = t + 1) (n1 : s1.length = t + 2) (n2 : s2.length = t + 3) (n3 : s3.length = t + 4) (y0 : s0[t]? = some (.inr 0)) (y1 : s1[t]? = some (.inr 0)) (y2 : s2[t]? = some (.inr 0)) (y3 : s3[t]? = some (.inr 0)) (y4 : s4[t]? = some (.inr 0)) (hz : zz (t + 1) I L R) : wr_V l 1 mX0_init 0 (wr_ent [.ref t]) [] s0 I L R 4 90 (wr_EQ none s4 (cI I t) L (cR R t)) := by
  show wr_V l 1 mX0_init 0 [some (.ref t)] [] s0 I L R 4 90 _
  refine wv_aload_n dX0_init_0 rfl ?_
  refine wv_oinit oLX0 oJi oJc dX0_init_1 (by decide) (Nat.le_of_ble_eq_true rfl) ?_
  refine wv_aload_n dX0_init_4 rfl ?_
  refine wv_bipush (v := 40) dX0_init_5 (by decide) ?_
  refine wv_newa (t := 0) (n := 40) (j := t + 1) (sh' := s1) (mc' := 3) (ms' := 50) (by decide) rfl aI dX0_init_7 (by decide +kernel) (by decide) n0 (by omega) e0 (hz _ (by omega) (by omega)) rfl rfl ?_
  refine wv_putFR (ci := 0) (k := 0) (by decide) (by decide) gX0_9 dX0_init_9 rfl rfl rfl rfl y1 ?_
  replace hz := zz_R (j := t) (k := 0) (x := t + 1 + 1) hz (by omega)
  refine wv_aload_n dX0_init_12 rfl ?_
  refine wv_bipush (v := 40) dX0_init_13 (by decide) ?_
  refine wv_newa (t := 0) (n := 40) (j := t + 2) (sh' := s2) (mc' := 2) (ms' := 10) (by decide) rfl aI dX0_init_15 (by decide +kernel) (by decide) n1 (by omega) e1 (hz _ (by omega) (by omega)) rfl rfl ?_
  refine wv_putFR (ci := 0) (k := 1) (by decide) (by decide) gX0_15 dX0_init_17 rfl rfl rfl rfl y2 ?_
  replace hz := zz_R (j := t) (k := 1) (x := t + 2 + 1) hz (by omega)
  refine wv_aload_n dX0_init_20 rfl ?_
  refine wv_iconst (v := 3) dX0_init_21 (by decide) ?_
  refine wv_newa (t := 0) (n := 3) (j := t + 3) (sh' := s3) (mc' := 1) (ms' := 7) (by decide) rfl aI dX0_init_22 (by decide +kernel) (by decide) n2 (by omega) e2 (hz _ (by omega) (by omega)) rfl rfl ?_
  refine wv_putFR (ci := 0) (k := 2) (by decide) (by decide) gX0_18 dX0_init_24 rfl rfl rfl rfl y3 ?_
  replace hz := zz_R (j := t) (k := 2) (x := t + 3 + 1) hz (by omega)
  refine wv_aload_n dX0_init_27 rfl ?_
  refine wv_bipush (v := 7) dX0_init_28 (by decide) ?_
  refine wv_newa (t := 0) (n := 7) (j := t + 4) (sh' := s4) (mc' := 0) (ms' := 0) (by decide) rfl aI dX0_init_30 (by decide +kernel) (by decide) n3 (by omega) e3 (hz _ (by omega) (by omega)) rfl rfl ?_
  refine wv_putFR (ci := 0) (k := 3) (by decide) (by decide) gX0_21 dX0_init_32 rfl rfl rfl rfl y4 ?_
  replace hz := zz_R (j := t) (k := 3) (x := t + 4 + 1) hz (by omega)
  refine wv_aload_n dX0_init_35 rfl ?_
  refine wv_iconst (v := 1) dX0_init_36 (by decide) ?_
  refine wv_putI fX0_24 dX0_init_37 rfl rfl rfl rfl y4 ?_
  replace hz := zz_I (j := t) (k := 8) (x := 1) hz (by omega)
  refine wv_ret (x := ()) rfl dX0_init_40 ?_
  exact ⟨rfl, rfl, rfl, rfl, rfl⟩
theorem zz_c {t : Nat} {I : wr_TI} {L : wr_TL} {R : wr_TR} (hz : zz (t + 1) I L R) : zz (t + 5) (cI I t) L (cR R t) := zz_mo (zz_I (zz_R (zz_R (zz_R (zz_R hz (by omega)) (by omega)) (by omega)) (by omega)) (by omega)) (by omega)
theorem zz_l {t : Nat} {I : wr_TI} {L : wr_TL} {R : wr_TR} (hz : zz (t + 1) I L R) : zz (t + 3) I L (lR R t) := zz_mo (zz_R (zz_R hz (by omega)) (by omega)) (by omega)
def fR (R : wr_TR) (t : Nat) : wr_TR := wr_uR (wr_uR (wr_uR (wr_uR (wr_uR (wr_uR R t 0 (t + 1 + 1)) t 1 (t + 2 + 1)) t 2 (t + 3 + 1)) t 3 (t + 4 + 1)) t 4 (t + 5 + 1)) t 5 (t + 6 + 1)
def fI (I : wr_TI) (t : Nat) : wr_TI := wr_uI (wr_uI I t 8 (-1)) t 9 (-1)
set_option maxHeartbeats 4000000 in
set_option maxRecDepth 100000 in
theorem n_films {l : Launch} {I : wr_TI} {L : wr_TL} {R : wr_TR} (t : Nat) (ht : t < 900) (s0 s1 s2 s3 s4 s5 s6 : List wr_S) (e0 : s0 ++ [.inl (0, 60)] = s1) (e1 : s1 ++ [.inl (3, 60)] = s2) (e2 : s2 ++ [.inl (0, 60)] = s3) (e3 : s3 ++ [.inl (0, 60)] = s4) (e4 : s4 ++ [.inl (2, 40)] = s5) (e5 : s5 ++ [.inl (3, 40)] = s6) (n0 : s0.length = t + 1) (n1 : s1.length = t + 2) (n2 : s2.length = t + 3) (n3 : s3.length = t + 4) (n4 : s4.length = t + 5) (n5 : s5.length = t + 6) (y0 : s0[t]? = some (.inr 1)) (y1 : s1[t]? = some (.inr 1)) (y2 : s2[t]? = some (.inr 1)) (y3 : s3[t]? = some (.inr 1)) (y4 : s4[t]? = some (.inr 1)) (y5 : s5[t]? = some (.inr 1)) (y6 : s6[t]? = some (.inr 1)) (hz : zz (t + 1) I L R) : wr_V l 1 mX1_init 0 (wr_ent [.ref t]) [] s0 I L R 6 320 (wr_EQ none s6 (fI I t) L (fR R t)) := by
  show wr_V l 1 mX1_init 0 [some (.ref t)] [] s0 I L R 6 320 _
  refine wv_aload_n dX1_init_0 rfl ?_
  refine wv_oinit oLX1 oJi oJc dX1_init_1 (by decide) (Nat.le_of_ble_eq_true rfl) ?_
  refine wv_aload_n dX1_init_4 rfl ?_
  refine wv_bipush (v := 60) dX1_init_5 (by decide) ?_
  refine wv_newa (t := 0) (n := 60) (j := t + 1) (sh' := s1) (mc' := 5) (ms' := 260) (by decide) rfl aI dX1_init_7 (by decide +kernel) (by decide) n0 (by omega) e0 (hz _ (by omega) (by omega)) rfl rfl ?_
  refine wv_putFR (ci := 1) (k := 0) (by decide) (by decide) gX1_9 dX1_init_9 rfl rfl rfl rfl y1 ?_
  replace hz := zz_R (j := t) (k := 0) (x := t + 1 + 1) hz (by omega)
  refine wv_aload_n dX1_init_12 rfl ?_
  refine wv_bipush (v := 60) dX1_init_13 (by decide) ?_
  refine wv_newa (t := 3) (n := 60) (j := t + 2) (sh' := s2) (mc' := 4) (ms' := 200) (by decide) rfl aJ dX1_init_15 (by decide +kernel) (by decide) n1 (by omega) e1 (hz _ (by omega) (by omega)) rfl rfl ?_
  refine wv_putFR (ci := 1) (k := 1) (by decide) (by decide) gX1_15 dX1_init_17 rfl rfl rfl rfl y2 ?_
  replace hz := zz_R (j := t) (k := 1) (x := t + 2 + 1) hz (by omega)
  refine wv_aload_n dX1_init_20 rfl ?_
  refine wv_bipush (v := 60) dX1_init_21 (by decide) ?_
  refine wv_newa (t := 0) (n := 60) (j := t + 3) (sh' := s3) (mc' := 3) (ms' := 140) (by decide) rfl aI dX1_init_23 (by decide +kernel) (by decide) n2 (by omega) e2 (hz _ (by omega) (by omega)) rfl rfl ?_
  refine wv_putFR (ci := 1) (k := 2) (by decide) (by decide) gX1_19 dX1_init_25 rfl rfl rfl rfl y3 ?_
  replace hz := zz_R (j := t) (k := 2) (x := t + 3 + 1) hz (by omega)
  refine wv_aload_n dX1_init_28 rfl ?_
  refine wv_bipush (v := 60) dX1_init_29 (by decide) ?_
  refine wv_newa (t := 0) (n := 60) (j := t + 4) (sh' := s4) (mc' := 2) (ms' := 80) (by decide) rfl aI dX1_init_31 (by decide +kernel) (by decide) n3 (by omega) e3 (hz _ (by omega) (by omega)) rfl rfl ?_
  refine wv_putFR (ci := 1) (k := 3) (by decide) (by decide) gX1_22 dX1_init_33 rfl rfl rfl rfl y4 ?_
  replace hz := zz_R (j := t) (k := 3) (x := t + 4 + 1) hz (by omega)
  refine wv_aload_n dX1_init_36 rfl ?_
  refine wv_bipush (v := 40) dX1_init_37 (by decide) ?_
  refine wv_newa (t := 2) (n := 40) (j := t + 5) (sh' := s5) (mc' := 1) (ms' := 40) (by decide) rfl aZ dX1_init_39 (by decide +kernel) (by decide) n4 (by omega) e4 (hz _ (by omega) (by omega)) rfl rfl ?_
  refine wv_putFR (ci := 1) (k := 4) (by decide) (by decide) gX1_25 dX1_init_41 rfl rfl rfl rfl y5 ?_
  replace hz := zz_R (j := t) (k := 4) (x := t + 5 + 1) hz (by omega)
  refine wv_aload_n dX1_init_44 rfl ?_
  refine wv_bipush (v := 40) dX1_init_45 (by decide) ?_
  refine wv_newa (t := 3) (n := 40) (j := t + 6) (sh' := s6) (mc' := 0) (ms' := 0) (by decide) rfl aJ dX1_init_47 (by decide +kernel) (by decide) n5 (by omega) e5 (hz _ (by omega) (by omega)) rfl rfl ?_
  refine wv_putFR (ci := 1) (k := 5) (by decide) (by decide) gX1_29 dX1_init_49 rfl rfl rfl rfl y6 ?_
  replace hz := zz_R (j := t) (k := 5) (x := t + 6 + 1) hz (by omega)
  refine wv_aload_n dX1_init_52 rfl ?_
  refine wv_iconst (v := (-1)) dX1_init_53 (by decide) ?_
  refine wv_putI fX1_32 dX1_init_54 rfl rfl rfl rfl y6 ?_
  replace hz := zz_I (j := t) (k := 8) (x := (-1)) hz (by omega)
  refine wv_aload_n dX1_init_57 rfl ?_
  refine wv_iconst (v := (-1)) dX1_init_58 (by decide) ?_
  refine wv_putI fX1_36 dX1_init_59 rfl rfl rfl rfl y6 ?_
  replace hz := zz_I (j := t) (k := 9) (x := (-1)) hz (by omega)
  refine wv_ret (x := ()) rfl dX1_init_62 ?_
  exact ⟨rfl, rfl, rfl, rfl, rfl⟩
theorem zz_f {t : Nat} {I : wr_TI} {L : wr_TL} {R : wr_TR} (hz : zz (t + 1) I L R) : zz (t + 7) (fI I t) L (fR R t) := zz_mo (zz_I (zz_I (zz_R (zz_R (zz_R (zz_R (zz_R (zz_R hz (by omega)) (by omega)) (by omega)) (by omega)) (by omega)) (by omega)) (by omega)) (by omega)) (by omega)
set_option maxHeartbeats 4000000 in
set_option maxRecDepth 100000 in
theorem n_tape {l : Launch} {I : wr_TI} {L : wr_TL} {R : wr_TR} (t : Nat) (ht : t < 900) (s0 s1 : List wr_S) (e0 : s0 ++ [.inl (1, 800)] = s1) (n0 : s0.length = t + 1) (y0 : s0[t]? = some (.inr 6)) (y1 : s1[t]? = some (.inr 6)) (hz : zz (t + 1) I L R) : wr_V l 1 mX6_init 0 (wr_ent [.ref t]) [] s0 I L R 1 800 (wr_EQ none s1 I L (wr_uR R t 0 (t + 1 + 1))) := by
  show wr_V l 1 mX6_init 0 [some (.ref t)] [] s0 I L R 1 800 _
  refine wv_aload_n dX6_init_0 rfl ?_
  refine wv_oinit oLX6 oJi oJc dX6_init_1 (by decide) (Nat.le_of_ble_eq_true rfl) ?_
  refine wv_aload_n dX6_init_4 rfl ?_
  refine wv_sipush (v := 800) dX6_init_5 (by decide) ?_
  refine wv_newa (t := 1) (n := 800) (j := t + 1) (sh' := s1) (mc' := 0) (ms' := 0) (by decide) rfl aB dX6_init_8 (by decide +kernel) (by decide) n0 (by omega) e0 (hz _ (by omega) (by omega)) rfl rfl ?_
  refine wv_putFR (ci := 6) (k := 0) (by decide) (by decide) gX6_9 dX6_init_10 rfl rfl rfl rfl y1 ?_
  replace hz := zz_R (j := t) (k := 0) (x := t + 1 + 1) hz (by omega)
  refine wv_ret (x := ()) rfl dX6_init_13 ?_
  exact ⟨rfl, rfl, rfl, rfl, rfl⟩
set_option maxHeartbeats 4000000 in
set_option maxRecDepth 100000 in
theorem n_reader {l : Launch} {I : wr_TI} {L : wr_TL} {R : wr_TR} (t a b : Nat) {sh : List wr_S} (y0 : sh[t]? = some (.inr 4)) : wr_V l 1 mX4_init 0 (wr_ent [.ref t, .ref a, .ref b]) [] sh I L R 0 0 (wr_EQ none sh (wr_uI I t 10 (-1)) L (wr_uR (wr_uR R t 0 (a + 1)) t 1 (b + 1))) := by
  show wr_V l 1 mX4_init 0 [some (.ref t), some (.ref a), some (.ref b)] [] sh I L R 0 0 _
  refine wv_aload_n dX4_init_0 rfl ?_
  refine wv_oinit oLX4 oJi oJc dX4_init_1 (by decide) (Nat.le_of_ble_eq_true rfl) ?_
  refine wv_aload_n dX4_init_4 rfl ?_
  refine wv_aload_n dX4_init_5 rfl ?_
  refine wv_putFR (ci := 4) (k := 0) (by decide) (by decide) gX4_9 dX4_init_6 rfl rfl rfl rfl y0 ?_
  refine wv_aload_n dX4_init_9 rfl ?_
  refine wv_aload_n dX4_init_10 rfl ?_
  refine wv_putR fX4_15 dX4_init_11 rfl rfl y0 ?_
  refine wv_aload_n dX4_init_14 rfl ?_
  refine wv_iconst (v := (-1)) dX4_init_15 (by decide) ?_
  refine wv_putI fX4_19 dX4_init_16 rfl rfl rfl rfl y0 ?_
  refine wv_ret (x := ()) rfl dX4_init_19 ?_
  exact ⟨rfl, rfl, rfl, rfl, rfl⟩
set_option maxHeartbeats 4000000 in
set_option maxRecDepth 100000 in
theorem n_plain {l : Launch} {I : wr_TI} {L : wr_TL} {R : wr_TR} (t a : Nat) {sh : List wr_S} (y0 : sh[t]? = some (.inr 3)) : wr_V l 1 mX3_init 0 (wr_ent [.ref t, .ref a]) [] sh I L R 0 0 (wr_EQ none sh I L (wr_uR R t 0 (a + 1))) := by
  show wr_V l 1 mX3_init 0 [some (.ref t), some (.ref a)] [] sh I L R 0 0 _
  refine wv_aload_n dX3_init_0 rfl ?_
  refine wv_oinit oLX3 oJi oJc dX3_init_1 (by decide) (Nat.le_of_ble_eq_true rfl) ?_
  refine wv_aload_n dX3_init_4 rfl ?_
  refine wv_aload_n dX3_init_5 rfl ?_
  refine wv_putR fX3_7 dX3_init_6 rfl rfl y0 ?_
  refine wv_ret (x := ()) rfl dX3_init_9 ?_
  exact ⟨rfl, rfl, rfl, rfl, rfl⟩
def rR (R : wr_TR) (t : Nat) : wr_TR := wr_uR (wr_uR (wr_uR (wr_uR (lR R (t + 1)) t 0 (t + 1 + 1)) t 1 (t + 4 + 1)) t 2 (t + 5 + 1)) t 3 (t + 6 + 1)
def rQ (I : wr_TI) (L : wr_TL) (R : wr_TR) (t : Nat) (s6 : List wr_S) : wr_TQ := fun v s' I' L' R' => v = none ∧ s' = s6 ∧ R' = rR R t ∧ rgV I' L' t (gE (I (t + 2)) (I (t + 4)) (I (t + 5)) (I (t + 6))) ∧ I' (t + 1) 3 = 2 ∧ (∀ b, b ≠ t → b ≠ t + 1 → b ≠ t + 2 → I' b = I b) ∧ ∀ b, b ≠ t → L' b = L b
set_option maxHeartbeats 4000000 in
set_option maxRecDepth 100000 in
theorem n_ring {l : Launch} {I : wr_TI} {L : wr_TL} {R : wr_TR} (t : Nat) (ht : t < 900) (s0 s1 s2 s3 s4 s5 s6 : List wr_S) (e0 : s0 ++ [.inr 2] = s1) (e1 : s1 ++ [.inl (0, 260)] = s2) (e2 : s2 ++ [.inl (0, 30)] = s3) (e3 : s3 ++ [.inl (0, 6)] = s4) (e4 : s4 ++ [.inl (0, 6)] = s5) (e5 : s5 ++ [.inl (0, 6)] = s6) (n0 : s0.length = t + 1) (n1 : s1.length = t + 2) (n2 : s2.length = t + 3) (n3 : s3.length = t + 4) (n4 : s4.length = t + 5) (n5 : s5.length = t + 6) (y0 : s0[t]? = some (.inr 5)) (y1 : s1[t]? = some (.inr 5)) (y2 : s2[t]? = some (.inr 5)) (y3 : s3[t]? = some (.inr 5)) (y4 : s4[t]? = some (.inr 5)) (y5 : s5[t]? = some (.inr 5)) (y6 : s6[t]? = some (.inr 5)) (w1 : s1[t + 1]? = some (.inr 2)) (w2 : s2[t + 1]? = some (.inr 2)) (w3 : s3[t + 1]? = some (.inr 2)) (w6 : s6[t + 1]? = some (.inr 2)) (w7 : s6[t + 2]? = some (.inl (0, 260))) (w8 : s6[t + 3]? = some (.inl (0, 30))) (w9 : s6[t + 4]? = some (.inl (0, 6))) (w10 : s6[t + 5]? = some (.inl (0, 6))) (w11 : s6[t + 6]? = some (.inl (0, 6))) (hz : zz (t + 1) I L R) : wr_V l 3 mX5_init 0 (wr_ent [.ref t]) [] s0 I L R 6 312 (rQ I L R t s6) := by
  show wr_V l 3 mX5_init 0 [some (.ref t)] [] s0 I L R 6 312 _
  refine wv_aload_n dX5_init_0 rfl ?_
  refine wv_oinit oLX5 oJi oJc dX5_init_1 (by decide) (Nat.le_of_ble_eq_true rfl) ?_
  refine wv_aload_n dX5_init_4 rfl ?_
  refine wv_new (ci := 2) (j := t + 1) (sh' := s1) (mc' := 5) (ms' := 308) (by decide) clX5_9 ib2 it2 dX5_init_5 n0 (by omega) e0 (hz _ (by omega) (by omega)) rfl rfl ?_
  replace hz := zz_mo (m := t + 2) hz (by omega)
  refine wv_dup dX5_init_8 rfl ?_
  refine wv_iE (j := t + 1) (as := []) (mc' := 2) (ms' := 290) (m2 := 3) (s2 := 18) (d' := 1) oX2_init rfl kX5_11 dX5_init_9 (by decide) rfl rfl rfl (Nat.le_of_ble_eq_true rfl) rfl (Nat.le_of_ble_eq_true rfl) (n_law (t + 1) (by omega) s1 s2 s3 e1 e2 n1 n2 w1 w2 w3 hz) ?_
  replace hz := zz_mo (m := t + 4) (zz_l hz) (by omega)
  refine wv_putFR (ci := 5) (k := 0) (by decide) (by decide) gX5_12 dX5_init_12 rfl rfl rfl rfl y3 ?_
  replace hz := zz_R (j := t) (k := 0) (x := t + 1 + 1) hz (by omega)
  refine wv_aload_n dX5_init_15 rfl ?_
  refine wv_bipush (v := 6) dX5_init_16 (by decide) ?_
  refine wv_newa (t := 0) (n := 6) (j := t + 4) (sh' := s4) (mc' := 2) (ms' := 12) (by decide) rfl aI dX5_init_18 (by decide +kernel) (by decide) n3 (by omega) e3 (hz _ (by omega) (by omega)) rfl rfl ?_
  refine wv_putFR (ci := 5) (k := 1) (by decide) (by decide) gX5_18 dX5_init_20 rfl rfl rfl rfl y4 ?_
  replace hz := zz_R (j := t) (k := 1) (x := t + 4 + 1) hz (by omega)
  refine wv_aload_n dX5_init_23 rfl ?_
  refine wv_bipush (v := 6) dX5_init_24 (by decide) ?_
  refine wv_newa (t := 0) (n := 6) (j := t + 5) (sh' := s5) (mc' := 1) (ms' := 6) (by decide) rfl aI dX5_init_26 (by decide +kernel) (by decide) n4 (by omega) e4 (hz _ (by omega) (by omega)) rfl rfl ?_
  refine wv_putFR (ci := 5) (k := 2) (by decide) (by decide) gX5_22 dX5_init_28 rfl rfl rfl rfl y5 ?_
  replace hz := zz_R (j := t) (k := 2) (x := t + 5 + 1) hz (by omega)
  refine wv_aload_n dX5_init_31 rfl ?_
  refine wv_bipush (v := 6) dX5_init_32 (by decide) ?_
  refine wv_newa (t := 0) (n := 6) (j := t + 6) (sh' := s6) (mc' := 0) (ms' := 0) (by decide) rfl aI dX5_init_34 (by decide +kernel) (by decide) n5 (by omega) e5 (hz _ (by omega) (by omega)) rfl rfl ?_
  refine wv_putFR (ci := 5) (k := 3) (by decide) (by decide) gX5_25 dX5_init_36 rfl rfl rfl rfl y6 ?_
  replace hz := zz_R (j := t) (k := 3) (x := t + 6 + 1) hz (by omega)
  refine wv_aload_n dX5_init_39 rfl ?_
  have hH : isH s6 (rR R t) t := ⟨y6, w6, w7, w8, w9, w10, w11, by simp [rR, lR, wr_uR], by simp [rR, lR, wr_uR], by simp [rR, lR, wr_uR], by simp [rR, lR, wr_uR], by simp [rR, lR, wr_uR], by simp [rR, lR, wr_uR]⟩
  show wr_V l 3 mX5_init 40 [some (.ref t)] [.ref t] s6 I L (rR R t) 0 0 _
  refine wv_v0 oX5_empty kX5_28 dX5_init_40 (by decide) y6 ⟨rfl, by decide⟩ (Nat.le_of_ble_eq_true rfl) (Nat.le_of_ble_eq_true rfl) (hR_empty t hH) (fun v x1 x2 x3 x4 q => ?_)
  obtain ⟨rfl, rfl, rfl, q4, q5, q6, q7⟩ := q
  refine wv_ret (x := ()) rfl dX5_init_43 ?_
  exact ⟨rfl, rfl, rfl, q4, q5, q6, q7⟩
theorem zz_r {t : Nat} {I I' : wr_TI} {L L' : wr_TL} {R : wr_TR} (hz : zz (t + 1) I L R) (hI : ∀ b, b ≠ t → b ≠ t + 1 → b ≠ t + 2 → I' b = I b) (hL : ∀ b, b ≠ t → L' b = L b) : zz (t + 7) I' L' (rR R t) := zz_g (zz_R (zz_R (zz_R (zz_R (zz_R (zz_R (zz_mo hz (by omega)) (by omega)) (by omega)) (by omega)) (by omega)) (by omega)) (by omega)) (fun b hb => hI b (by omega) (by omega) (by omega)) (fun b hb => hL b (by omega))
