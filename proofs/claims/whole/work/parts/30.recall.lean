/-! recall -/
def rcI (I : wr_TI) (m : FM) (k : Int32) (i : Nat) : wr_TI := fun a b => if a = 35 ∧ b < 40 then (if (knG m k i b).isSome = true then 1 else 0) else I a b
def rcL (L : wr_TL) (m : FM) (k : Int32) (i : Nat) : wr_TL := fun a b => if a = 36 ∧ b < 40 then (match knG m k i b with | some u => u | none => L 36 b) else L a b
def rc0 (I : wr_TI) (i : Nat) : wr_TI := fun a b => if a = 35 ∧ b < i then 0 else I a b
def rcF (I : wr_TI) (m : FM) (k : Int32) (i : Nat) : wr_TI := fun a b => if a = 30 ∧ b = 8 then oI (fst (kS m k) i) else if a = 30 ∧ b = 9 then oI (lst (kS m k) i) else rcI I m k m.1 a b
theorem fmV_fr {I I' : wr_TI} {L L' : wr_TL} {m : FM} (h : fmV I L m) (h0 : I' 30 6 = I 30 6) (h1 : I' 31 = I 31) (h3 : I' 33 = I 33) (h4 : I' 34 = I 34) (hL : L' 32 = L 32) : fmV I' L' m := by
  unfold fmV at *
  rw [h0, h1, h3, h4, hL]
  exact h
theorem oI_m1 {x : Nat} (h : x < 40) : ¬ nI x = -1 := by
  have : ∀ x : Fin 40, ¬ nI x.val = -1 := by decide
  exact this ⟨x, h⟩
theorem fst_lt {p : Nat → Bool} : ∀ {n x : Nat}, fst p n = some x → x < n := by
  intro n
  induction n with
  | zero => intro x h; simp [fst] at h
  | succ n ih =>
    intro x h
    simp only [fst] at h
    cases hf : fst p n with
    | some y => rw [hf] at h; simp at h; subst h; have := ih hf; omega
    | none =>
      rw [hf] at h
      by_cases hp : p n = true
      · simp [hp] at h; omega
      · simp [hp] at h
theorem lst_lt {p : Nat → Bool} : ∀ {n x : Nat}, lst p n = some x → x < n := by
  intro n
  induction n with
  | zero => intro x h; simp [lst] at h
  | succ n ih =>
    intro x h
    simp only [lst] at h
    by_cases hp : p n = true
    · simp [hp] at h; omega
    · simp [hp] at h; have := ih h; omega
set_option maxHeartbeats 4000000 in
set_option maxRecDepth 100000 in
theorem cF_recall {l : Launch} {I : wr_TI} {L : wr_TL} {R : wr_TR} (hR : wr_RC R) (m : FM) (tk : Int32) (hM : fmV I L m) : wr_E l 1 mX1_recall [.ref 30, .int tk] SH I L R none (rcF I m tk 40) (rcL L m tk m.1) R := by
  obtain ⟨m0, m1, m2⟩ := id hM
  have lp3 : ∀ (k i : Nat), i + k = 40 → wr_V l 1 mX1_recall 100 [some (.ref 30), some (.int tk), some (.int (nI i)), none] [] SH (rcF I m tk i) (rcL L m tk m.1) R 0 0 (wr_EQ none SH (rcF I m tk 40) (rcL L m tk m.1) R) := by
    intro k
    induction k with
    | zero =>
      intro i hi
      obtain rfl : i = 40 := by omega
      refine wv_iload_n dX1_recall_100 rfl ?_
      refine wv_bipush (v := 40) dX1_recall_101 (by decide) ?_
      refine wv_icmp_ge (tgt := 146) dX1_recall_103 (by decide) (fun h103 => ?_) (fun h103 => absurd (nI_le (a := 40) (by omega) (by omega)) h103)
      refine wv_ret (x := ()) rfl dX1_recall_146 ?_
      exact ⟨rfl, rfl, rfl, rfl, rfl⟩
    | succ k ih =>
      intro i hi
      have hkw : rcF I m tk i 35 i = if kS m tk i = true then 1 else 0 := by
        simp only [rcF, rcI]
        rw [if_neg (by omega), if_neg (by omega), if_pos ⟨trivial, by omega⟩]
        rfl
      have hf8 : rcF I m tk i 30 8 = oI (fst (kS m tk) i) := by simp [rcF]
      have e8 : fst (kS m tk) (i + 1) = match fst (kS m tk) i with | some y => some y | none => if kS m tk i = true then some i else none := rfl
      have e9 : lst (kS m tk) (i + 1) = if kS m tk i = true then some i else lst (kS m tk) i := rfl
      refine wv_iload_n dX1_recall_100 rfl ?_
      refine wv_bipush (v := 40) dX1_recall_101 (by decide) ?_
      refine wv_icmp_ge (tgt := 146) dX1_recall_103 (by decide) (fun h103 => absurd h103 (nI_ge (b := 40) (by omega) (by omega))) (fun h103 => ?_)
      refine wv_aload_n dX1_recall_106 rfl ?_
      refine wv_getR fX1_25 dX1_recall_107 rfl (by first | assumption | rfl) (by first | exact hR _ _ _ rfl | assumption) ?_
      refine wv_iload_n dX1_recall_110 rfl ?_
      refine wv_zaldN dX1_recall_111 (by first | assumption | rfl) (by omega) (by decide) ?_
      refine wv_if_eq (tgt := 140) dX1_recall_112 (by decide) (fun h112 => ?_) (fun h112 => ?_)
      · rw [hkw, if10] at h112
        have hno := h112
        refine wv_iinc (v := nI (i + 1)) dX1_recall_140 rfl (nI_1 (i)) (by decide) ?_
        refine wv_goto (tgt := 100) dX1_recall_143 (by decide) ?_
        first
        | (have _ := hno
           have q1 : fst (kS m tk) (i + 1) = fst (kS m tk) i := by rw [e8]; cases fst (kS m tk) i <;> simp [h112]
           have q2 : lst (kS m tk) (i + 1) = lst (kS m tk) i := by rw [e9, if_neg h112]
           refine wv_I (I' := rcF I m tk (i + 1)) (fun a b => by simp only [rcF]; rw [q1, q2]) ?_
           exact wv_le (by simp [wr_leq, wr_s1, wr_s2, wr_wide]) (ih (i + 1) (by omega)))
        | (have _ := hA
           have q1 : oI (fst (kS m tk) (i + 1)) = nI i := by rw [e8, hfn]; simp [hp]; rfl
           have q2 : oI (lst (kS m tk) (i + 1)) = nI i := by rw [e9, if_pos hp]; rfl
           refine wv_I (I' := rcF I m tk (i + 1)) (fun a b => by simp only [wr_uI, rcF]; rw [q1, q2]; grind) ?_
           exact wv_le (by simp [wr_leq, wr_s1, wr_s2, wr_wide]) (ih (i + 1) (by omega)))
        | (have q1 : oI (fst (kS m tk) (i + 1)) = oI (fst (kS m tk) i) := by rw [e8, hfn]
           have q2 : oI (lst (kS m tk) (i + 1)) = nI i := by rw [e9, if_pos hp]; rfl
           refine wv_I (I' := rcF I m tk (i + 1)) (fun a b => by simp only [wr_uI, rcF]; rw [q1, q2]; grind) ?_
           exact wv_le (by simp [wr_leq, wr_s1, wr_s2, wr_wide]) (ih (i + 1) (by omega)))
      · rw [hkw, if10] at h112
        have hp : kS m tk i = true := Decidable.not_not.mp h112
        refine wv_aload_n dX1_recall_115 rfl ?_
        refine wv_aload_n dX1_recall_116 rfl ?_
        refine wv_getI fX1_32 dX1_recall_117 rfl (by first | assumption | rfl) ?_
        refine wv_iconst (v := (-1)) dX1_recall_120 (by decide) ?_
        refine wv_icmp_ne (tgt := 128) dX1_recall_121 (by decide) (fun h121 => ?_) (fun h121 => ?_)
        · rw [hf8] at h121
          obtain ⟨y, hfn⟩ : ∃ y, fst (kS m tk) i = some y := by
            cases hq : fst (kS m tk) i with
            | none => rw [hq] at h121; exact absurd rfl h121
            | some y => exact ⟨y, rfl⟩
          refine wv_aload_n dX1_recall_128 rfl ?_
          refine wv_getI fX1_32 dX1_recall_129 rfl (by first | assumption | rfl) ?_
          refine wv_putI fX1_32 dX1_recall_132 rfl rfl rfl rfl (by first | assumption | rfl) ?_
          refine wv_aload_n dX1_recall_135 rfl ?_
          refine wv_iload_n dX1_recall_136 rfl ?_
          refine wv_putI fX1_36 dX1_recall_137 rfl rfl rfl rfl (by first | assumption | rfl) ?_
          refine wv_iinc (v := nI (i + 1)) dX1_recall_140 rfl (nI_1 (i)) (by decide) ?_
          refine wv_goto (tgt := 100) dX1_recall_143 (by decide) ?_
          first
          | (have _ := hno
             have q1 : fst (kS m tk) (i + 1) = fst (kS m tk) i := by rw [e8]; cases fst (kS m tk) i <;> simp [h112]
             have q2 : lst (kS m tk) (i + 1) = lst (kS m tk) i := by rw [e9, if_neg h112]
             refine wv_I (I' := rcF I m tk (i + 1)) (fun a b => by simp only [rcF]; rw [q1, q2]) ?_
             exact wv_le (by simp [wr_leq, wr_s1, wr_s2, wr_wide]) (ih (i + 1) (by omega)))
          | (have _ := hA
             have q1 : oI (fst (kS m tk) (i + 1)) = nI i := by rw [e8, hfn]; simp [hp]; rfl
             have q2 : oI (lst (kS m tk) (i + 1)) = nI i := by rw [e9, if_pos hp]; rfl
             refine wv_I (I' := rcF I m tk (i + 1)) (fun a b => by simp only [wr_uI, rcF]; rw [q1, q2]; grind) ?_
             exact wv_le (by simp [wr_leq, wr_s1, wr_s2, wr_wide]) (ih (i + 1) (by omega)))
          | (have q1 : oI (fst (kS m tk) (i + 1)) = oI (fst (kS m tk) i) := by rw [e8, hfn]
             have q2 : oI (lst (kS m tk) (i + 1)) = nI i := by rw [e9, if_pos hp]; rfl
             refine wv_I (I' := rcF I m tk (i + 1)) (fun a b => by simp only [wr_uI, rcF]; rw [q1, q2]; grind) ?_
             exact wv_le (by simp [wr_leq, wr_s1, wr_s2, wr_wide]) (ih (i + 1) (by omega)))
        · have hA := hf8
          rw [hf8] at h121
          have hfn : fst (kS m tk) i = none := by
            cases hq : fst (kS m tk) i with
            | none => rfl
            | some y => rw [hq] at h121; exact absurd h121 (oI_m1 (by have := fst_lt hq; omega))
          refine wv_iload_n dX1_recall_124 rfl ?_
          refine wv_goto (tgt := 132) dX1_recall_125 (by decide) ?_
          refine wv_putI fX1_32 dX1_recall_132 rfl rfl rfl rfl (by first | assumption | rfl) ?_
          refine wv_aload_n dX1_recall_135 rfl ?_
          refine wv_iload_n dX1_recall_136 rfl ?_
          refine wv_putI fX1_36 dX1_recall_137 rfl rfl rfl rfl (by first | assumption | rfl) ?_
          refine wv_iinc (v := nI (i + 1)) dX1_recall_140 rfl (nI_1 (i)) (by decide) ?_
          refine wv_goto (tgt := 100) dX1_recall_143 (by decide) ?_
          first
          | (have _ := hno
             have q1 : fst (kS m tk) (i + 1) = fst (kS m tk) i := by rw [e8]; cases fst (kS m tk) i <;> simp [h112]
             have q2 : lst (kS m tk) (i + 1) = lst (kS m tk) i := by rw [e9, if_neg h112]
             refine wv_I (I' := rcF I m tk (i + 1)) (fun a b => by simp only [rcF]; rw [q1, q2]) ?_
             exact wv_le (by simp [wr_leq, wr_s1, wr_s2, wr_wide]) (ih (i + 1) (by omega)))
          | (have _ := hA
             have q1 : oI (fst (kS m tk) (i + 1)) = nI i := by rw [e8, hfn]; simp [hp]; rfl
             have q2 : oI (lst (kS m tk) (i + 1)) = nI i := by rw [e9, if_pos hp]; rfl
             refine wv_I (I' := rcF I m tk (i + 1)) (fun a b => by simp only [wr_uI, rcF]; rw [q1, q2]; grind) ?_
             exact wv_le (by simp [wr_leq, wr_s1, wr_s2, wr_wide]) (ih (i + 1) (by omega)))
          | (have q1 : oI (fst (kS m tk) (i + 1)) = oI (fst (kS m tk) i) := by rw [e8, hfn]
             have q2 : oI (lst (kS m tk) (i + 1)) = nI i := by rw [e9, if_pos hp]; rfl
             refine wv_I (I' := rcF I m tk (i + 1)) (fun a b => by simp only [wr_uI, rcF]; rw [q1, q2]; grind) ?_
             exact wv_le (by simp [wr_leq, wr_s1, wr_s2, wr_wide]) (ih (i + 1) (by omega)))
  have lp2 : ∀ (k i : Nat), i + k = m.1 → wr_V l 1 mX1_recall 23 [some (.ref 30), some (.int tk), some (.int (nI i)), none] [] SH (rcI I m tk i) (rcL L m tk i) R 0 0 (wr_EQ none SH (rcF I m tk 40) (rcL L m tk m.1) R) := by
    intro k
    induction k with
    | zero =>
      intro i hi
      obtain rfl : i = m.1 := by omega
      have hcn : rcI I m tk m.1 30 6 = nI m.1 := by simp only [rcI]; rw [if_neg (by omega)]; exact m0
      refine wv_iload_n dX1_recall_23 rfl ?_
      refine wv_aload_n dX1_recall_24 rfl ?_
      refine wv_getI fX1_39 dX1_recall_25 rfl (by first | assumption | rfl) ?_
      refine wv_icmp_ge (tgt := 88) dX1_recall_28 (by decide) (fun h28 => ?_) (fun h28 => absurd (by rw [hcn]; exact nI_le (Nat.le_refl _) (by omega)) h28)
      refine wv_aload_n dX1_recall_88 rfl ?_
      refine wv_iconst (v := (-1)) dX1_recall_89 (by decide) ?_
      refine wv_putI fX1_32 dX1_recall_90 rfl rfl rfl rfl (by first | assumption | rfl) ?_
      refine wv_aload_n dX1_recall_93 rfl ?_
      refine wv_iconst (v := (-1)) dX1_recall_94 (by decide) ?_
      refine wv_putI fX1_36 dX1_recall_95 rfl rfl rfl rfl (by first | assumption | rfl) ?_
      refine wv_iconst (v := nI 0) dX1_recall_98 rfl ?_
      refine wv_istore_k (i := 2) dX1_recall_99 rfl (by decide) ?_
      refine wv_I (I' := rcF I m tk 0) (fun a b => by simp only [wr_uI, rcF, fst, lst, oI]; grind) ?_
      exact wv_le (by simp [wr_leq, wr_s1, wr_s2, wr_wide]) (lp3 40 0 (by omega))
    | succ k ih =>
      intro i hi
      have hMi : fmV (rcI I m tk i) (rcL L m tk i) m := fmV_fr hM (by simp [rcI]) (by funext b; simp [rcI]) (by funext b; simp [rcI]) (by funext b; simp [rcI]) (by funext b; simp [rcL])
      obtain ⟨f1, f2, f3, -, -⟩ := hMi.2.2 i (by omega)
      have ek : ∀ x, knG m tk (i + 1) x = if fmC m i tk = true ∧ m.2.1 i = x then some (m.2.2.1 i) else knG m tk i x := fun x => rfl
      refine wv_iload_n dX1_recall_23 rfl ?_
      refine wv_aload_n dX1_recall_24 rfl ?_
      refine wv_getI fX1_39 dX1_recall_25 rfl (by first | assumption | rfl) ?_
      refine wv_icmp_ge (tgt := 88) dX1_recall_28 (by decide) (fun h28 => absurd h28 (by rw [hMi.1]; exact nI_ge (by omega) (by omega))) (fun h28 => ?_)
      refine wv_iload_n dX1_recall_31 rfl ?_
      refine wv_bipush (v := 60) dX1_recall_32 (by decide) ?_
      refine wv_icmp_ge (tgt := 88) dX1_recall_34 (by decide) (fun h34 => absurd h34 (nI_ge (b := 60) (by omega) (by omega))) (fun h34 => ?_)
      refine wv_aload_n dX1_recall_37 rfl ?_
      refine wv_getR fX1_9 dX1_recall_38 rfl (by first | assumption | rfl) (by first | exact hR _ _ _ rfl | assumption) ?_
      refine wv_iload_n dX1_recall_41 rfl ?_
      refine wv_ialdN dX1_recall_42 (by first | assumption | rfl) (by omega) (by decide) ?_
      rw [f1]
      refine wv_istore_k (i := 3) dX1_recall_43 rfl (by decide) ?_
      refine wv_aload_n dX1_recall_44 rfl ?_
      refine wv_iload_n dX1_recall_45 rfl ?_
      refine wv_iload_n dX1_recall_46 rfl ?_
      refine wv_v2e oX1_counts kX1_45 dX1_recall_47 (by omega) (by first | assumption | rfl) ⟨rfl, by decide⟩ (Nat.le_of_ble_eq_true rfl) (Nat.le_of_ble_eq_true rfl) (cF_counts hR m i tk hMi (by omega)) ?_
      refine wv_if_eq (tgt := 82) dX1_recall_50 (by decide) (fun h50 => ?_) (fun h50 => ?_)
      · rw [if10] at h50
        have hno := h50
        refine wv_iinc (v := nI (i + 1)) dX1_recall_82 rfl (nI_1 (i)) (by decide) ?_
        refine wv_goto (tgt := 23) dX1_recall_85 (by decide) ?_
        first
        | (have _ := hno
           have q : ∀ x, knG m tk (i + 1) x = knG m tk i x := fun x => by rw [ek, if_neg (fun z => h50 z.1)]
           refine wv_I (I' := rcI I m tk (i + 1)) (fun a b => by simp only [rcI]; rw [q]) (wv_L (L' := rcL L m tk (i + 1)) (fun a b => by simp only [rcL]; rw [q]) ?_)
           exact wv_le (by simp [wr_leq, wr_s1, wr_s2, wr_wide]) (ih (i + 1) (by omega)))
        | (refine wv_I (I' := rcI I m tk (i + 1)) (fun a b => ?_) (wv_L (L' := rcL L m tk (i + 1)) (fun a b => ?_) ?_)
           · simp only [wr_uI, rcI]
             rw [ek]
             by_cases ha : a = 35 ∧ b < 40
             · by_cases hb : m.2.1 i = b
               · simp [ha, hb, hct]; rfl
               · simp [ha, hb, hct, Ne.symm hb]
             · have : ¬ (a = 35 ∧ b = m.2.1 i) := fun z => ha ⟨z.1, by omega⟩
               simp [ha, this]
           · simp only [wr_uL, rcL]
             rw [ek]
             by_cases ha : a = 36 ∧ b < 40
             · by_cases hb : m.2.1 i = b
               · simp [ha, hb, hct]
               · simp [ha, hb, hct, Ne.symm hb]
             · have : ¬ (a = 36 ∧ b = m.2.1 i) := fun z => ha ⟨z.1, by omega⟩
               simp [ha, this]
           · exact wv_le (by simp [wr_leq, wr_s1, wr_s2, wr_wide]) (ih (i + 1) (by omega)))
      · rw [if10] at h50
        have hct : fmC m i tk = true := Decidable.not_not.mp h50
        refine wv_iload_n dX1_recall_53 rfl ?_
        refine wv_if_lt (tgt := 82) dX1_recall_54 (by decide) (fun h54 => absurd h54 (nI_pos (by omega))) (fun h54 => ?_)
        refine wv_iload_n dX1_recall_57 rfl ?_
        refine wv_bipush (v := 40) dX1_recall_58 (by decide) ?_
        refine wv_icmp_ge (tgt := 82) dX1_recall_60 (by decide) (fun h60 => absurd h60 (nI_ge (b := 40) (by omega) (by omega))) (fun h60 => ?_)
        refine wv_aload_n dX1_recall_63 rfl ?_
        refine wv_getR fX1_25 dX1_recall_64 rfl (by first | assumption | rfl) (by first | exact hR _ _ _ rfl | assumption) ?_
        refine wv_iload_n dX1_recall_67 rfl ?_
        refine wv_iconst (v := 1) dX1_recall_68 (by decide) ?_
        refine wv_zastN dX1_recall_69 (by first | assumption | rfl) (by omega) (by decide) ?_
        refine wv_aload_n dX1_recall_70 rfl ?_
        refine wv_getR fX1_29 dX1_recall_71 rfl (by first | assumption | rfl) (by first | exact hR _ _ _ rfl | assumption) ?_
        refine wv_iload_n dX1_recall_74 rfl ?_
        refine wv_aload_n dX1_recall_75 rfl ?_
        refine wv_getR fX1_15 dX1_recall_76 rfl (by first | assumption | rfl) (by first | exact hR _ _ _ rfl | assumption) ?_
        refine wv_iload_n dX1_recall_79 rfl ?_
        refine wv_laldN dX1_recall_80 (by first | assumption | rfl) (by omega) (by decide) ?_
        rw [f3]
        refine wv_lastN dX1_recall_81 (by first | assumption | rfl) (by omega) (by decide) ?_
        refine wv_iinc (v := nI (i + 1)) dX1_recall_82 rfl (nI_1 (i)) (by decide) ?_
        refine wv_goto (tgt := 23) dX1_recall_85 (by decide) ?_
        first
        | (have _ := hno
           have q : ∀ x, knG m tk (i + 1) x = knG m tk i x := fun x => by rw [ek, if_neg (fun z => h50 z.1)]
           refine wv_I (I' := rcI I m tk (i + 1)) (fun a b => by simp only [rcI]; rw [q]) (wv_L (L' := rcL L m tk (i + 1)) (fun a b => by simp only [rcL]; rw [q]) ?_)
           exact wv_le (by simp [wr_leq, wr_s1, wr_s2, wr_wide]) (ih (i + 1) (by omega)))
        | (refine wv_I (I' := rcI I m tk (i + 1)) (fun a b => ?_) (wv_L (L' := rcL L m tk (i + 1)) (fun a b => ?_) ?_)
           · simp only [wr_uI, rcI]
             rw [ek]
             by_cases ha : a = 35 ∧ b < 40
             · by_cases hb : m.2.1 i = b
               · simp [ha, hb, hct]; rfl
               · simp [ha, hb, hct, Ne.symm hb]
             · have : ¬ (a = 35 ∧ b = m.2.1 i) := fun z => ha ⟨z.1, by omega⟩
               simp [ha, this]
           · simp only [wr_uL, rcL]
             rw [ek]
             by_cases ha : a = 36 ∧ b < 40
             · by_cases hb : m.2.1 i = b
               · simp [ha, hb, hct]
               · simp [ha, hb, hct, Ne.symm hb]
             · have : ¬ (a = 36 ∧ b = m.2.1 i) := fun z => ha ⟨z.1, by omega⟩
               simp [ha, this]
           · exact wv_le (by simp [wr_leq, wr_s1, wr_s2, wr_wide]) (ih (i + 1) (by omega)))
  have lp1 : ∀ (k i : Nat), i + k = 40 → wr_V l 1 mX1_recall 2 [some (.ref 30), some (.int tk), some (.int (nI i)), none] [] SH (rc0 I i) L R 0 0 (wr_EQ none SH (rcF I m tk 40) (rcL L m tk m.1) R) := by
    intro k
    induction k with
    | zero =>
      intro i hi
      obtain rfl : i = 40 := by omega
      refine wv_iload_n dX1_recall_2 rfl ?_
      refine wv_bipush (v := 40) dX1_recall_3 (by decide) ?_
      refine wv_icmp_ge (tgt := 21) dX1_recall_5 (by decide) (fun h5 => ?_) (fun h5 => absurd (nI_le (a := 40) (by omega) (by omega)) h5)
      refine wv_iconst (v := nI 0) dX1_recall_21 rfl ?_
      refine wv_istore_k (i := 2) dX1_recall_22 rfl (by decide) ?_
      refine wv_I (I' := rcI I m tk 0) (fun a b => by simp only [rc0, rcI, knG]; grind) (wv_L (L' := rcL L m tk 0) (fun a b => by simp only [rcL, knG]; grind) ?_)
      exact wv_le (by simp [wr_leq, wr_s1, wr_s2, wr_wide]) (lp2 m.1 0 (by omega))
    | succ k ih =>
      intro i hi
      refine wv_iload_n dX1_recall_2 rfl ?_
      refine wv_bipush (v := 40) dX1_recall_3 (by decide) ?_
      refine wv_icmp_ge (tgt := 21) dX1_recall_5 (by decide) (fun h5 => absurd h5 (nI_ge (b := 40) (by omega) (by omega))) (fun h5 => ?_)
      refine wv_aload_n dX1_recall_8 rfl ?_
      refine wv_getR fX1_25 dX1_recall_9 rfl (by first | assumption | rfl) (by first | exact hR _ _ _ rfl | assumption) ?_
      refine wv_iload_n dX1_recall_12 rfl ?_
      refine wv_iconst (v := 0) dX1_recall_13 (by decide) ?_
      refine wv_zastN dX1_recall_14 (by first | assumption | rfl) (by omega) (by decide) ?_
      refine wv_iinc (v := nI (i + 1)) dX1_recall_15 rfl (nI_1 (i)) (by decide) ?_
      refine wv_goto (tgt := 2) dX1_recall_18 (by decide) ?_
      refine wv_I (I' := rc0 I (i + 1)) (fun a b => by simp only [wr_uI, rc0]; rw [show vp_nar .boolean 0 = 0 from rfl]; grind) ?_
      exact wv_le (by simp [wr_leq, wr_s1, wr_s2, wr_wide]) (ih (i + 1) (by omega))
  refine wv_pad 2 ?_
  show wr_V l 1 mX1_recall 0 [some (.ref 30), some (.int tk), none, none] [] SH I L R 0 0 _
  refine wv_iconst (v := nI 0) dX1_recall_0 rfl ?_
  refine wv_istore_k (i := 2) dX1_recall_1 rfl (by decide) ?_
  refine wv_I (I' := rc0 I 0) (fun a b => by simp only [rc0]; grind) ?_
  exact wv_le (by simp [wr_leq, wr_s1, wr_s2, wr_wide]) (lp1 40 0 (by omega))

