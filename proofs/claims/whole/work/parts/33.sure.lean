/-! sure -/
def shw (g : RG) (a f mo x : Nat) (u : Int64) : Bool := isU (pit g a (mo - f) (ps0 g (lb u)) x)
def sur (c u : Nat) : Int32 := if c = 0 then -1 else if u = c then 1 else if u = 0 then 0 else 2
def aSure (g : RG) (kx : Nat → Option Int64) (x mo : Int32) : Int32 := match fst (fun x => (kx x).isSome) 40 with
  | none => -1
  | some f => if oS g x ∧ nI f ≤ mo ∧ mo < 40 then (match kx f with
    | none => -1
    | some u => sur (cn (fun a => fitS g a kx) 324) (cn (fun a => fitS g a kx && shw g a f (tN mo) (tN x) u) 324)) else -1
theorem nI_nm {n : Nat} (h : n < 2 ^ 31) : ¬ nI n = -1 := fun z => nI_pos h (by rw [z]; decide)
theorem fitS_ga {g : RG} {a f : Nat} {kx : Nat → Option Int64} {u : Int64} (h : fitS g a kx = true) (hff : fst (fun x => (kx x).isSome) 40 = some f) (hu : kx f = some u) : cn (fun s => lb u s && gG g s) (gN g) = 0 := by
  unfold fitS at h
  rw [hff] at h
  simp only [hu, Bool.and_eq_true, decide_eq_true_eq] at h
  exact h.1
theorem sur_e {c u : Nat} (hc : c ≤ 324) (hu : u ≤ 324) : (nI c = 0 ↔ c = 0) ∧ (nI u = nI c ↔ u = c) ∧ (nI u = 0 ↔ u = 0) := ⟨nI_eq (b := 0) (by omega) (by omega), nI_eq (by omega) (by omega), nI_eq (b := 0) (by omega) (by omega)⟩
set_option maxHeartbeats 4000000 in
set_option maxRecDepth 100000 in
theorem cW_sureL {l : Launch} {I : wr_TI} {L : wr_TL} {R : wr_TR} (hR : wr_RC R) (t : Nat) (ht : t = 3 ∨ t = 10) (hto : R 0 1 = t + 1) (g : RG) (hV : rgV I L t g) (m : FM) (tk : Int32) (hM : fmV I L m) (hU : fmU g m) (f mo x : Nat) (u : Int64) (hff : fst (fun x => (kn m tk x).isSome) 40 = some f) (hu : kn m tk f = some u) (hfm : f ≤ mo) (hm : mo < 40) (hx : x < gN g) : ∀ (k i : Nat) (J : wr_TI) (K : wr_TL) (K2 : wr_TR), i + k = 324 → frQ (rcF I m tk 40) (rcL L m tk m.1) R J K K2 → wr_V l 6 mX7_sure 58 [some (.ref 0), some (.int (nI x)), some (.int (nI mo)), none, some (.int (nI (cn (fun a => fitS g a (kn m tk)) i))), some (.int (nI (cn (fun a => fitS g a (kn m tk) && shw g a f mo x u) i))), some (.int (nI i))] [] SH J K K2 0 0 (fun v s' I' L' R' => v = some (.int (sur (cn (fun a => fitS g a (kn m tk)) 324) (cn (fun a => fitS g a (kn m tk) && shw g a f mo x u) 324))) ∧ s' = SH ∧ frR I L R I' L' R') := by
  have hg := isG_of hR ht
  obtain ⟨-, g0, -⟩ := id hg
  have hn := hV.1
  have hn6 := hV.2.1
  have hn40 := hV.2.2.1
  have hVr := rgV_rc (m := m) (k := tk) ht hV
  have hkr := kV_rc (I := I) (L := L) (m := m) (k := tk) hU
  intro k
  induction k with
  | zero =>
    intro i J K K2 hi hf
    obtain rfl : i = 324 := by omega
    obtain ⟨e1, e2, e3⟩ := sur_e (cn_le (fun a => fitS g a (kn m tk)) 324) (cn_le (fun a => fitS g a (kn m tk) && shw g a f mo x u) 324)
    refine wv_iload dX7_sure_58 rfl ?_
    refine wv_sipush (v := 324) dX7_sure_60 (by decide) ?_
    refine wv_icmp_ge (tgt := 108) dX7_sure_63 (by decide) (fun h63 => ?_) (fun h63 => absurd (nI_le (a := 324) (by omega) (by omega)) h63)
    refine wv_iload dX7_sure_108 rfl ?_
    refine wv_if_ne (tgt := 115) dX7_sure_110 (by decide) (fun h110 => ?_) (fun h110 => ?_)
    · refine wv_iload dX7_sure_115 rfl ?_
      refine wv_iload dX7_sure_117 rfl ?_
      refine wv_icmp_ne (tgt := 124) dX7_sure_119 (by decide) (fun h119 => ?_) (fun h119 => ?_)
      · refine wv_iload dX7_sure_124 rfl ?_
        refine wv_if_ne (tgt := 133) dX7_sure_126 (by decide) (fun h126 => ?_) (fun h126 => ?_)
        · refine wv_iconst (v := 2) dX7_sure_133 (by decide) ?_
          refine wv_iret rfl dX7_sure_134 ?_
          refine ⟨?_, rfl, frR_of hf⟩
          simp only [e1, e2, e3] at *
          unfold sur
          simp_all
        · refine wv_iconst (v := 0) dX7_sure_129 (by decide) ?_
          refine wv_goto (tgt := 134) dX7_sure_130 (by decide) ?_
          refine wv_iret rfl dX7_sure_134 ?_
          refine ⟨?_, rfl, frR_of hf⟩
          simp only [e1, e2, e3] at *
          unfold sur
          simp_all
      · refine wv_iconst (v := 1) dX7_sure_122 (by decide) ?_
        refine wv_iret rfl dX7_sure_123 ?_
        refine ⟨?_, rfl, frR_of hf⟩
        simp only [e1, e2, e3] at *
        unfold sur
        simp_all
    · refine wv_iconst (v := (-1)) dX7_sure_113 (by decide) ?_
      refine wv_iret rfl dX7_sure_114 ?_
      refine ⟨?_, rfl, frR_of hf⟩
      simp only [e1, e2, e3] at *
      unfold sur
      simp_all
  | succ k ih =>
    intro i J K K2 hi hf
    have hRK : wr_RC K2 := frQ_R hf hR
    have hKt : K2 0 1 = t + 1 := by rw [hf.2.2 _ _ (by omega)]; exact hto
    refine wv_iload dX7_sure_58 rfl ?_
    refine wv_sipush (v := 324) dX7_sure_60 (by decide) ?_
    refine wv_icmp_ge (tgt := 108) dX7_sure_63 (by decide) (fun h63 => absurd h63 (nI_ge (b := 324) (by omega) (by omega))) (fun h63 => ?_)
    refine wv_aload_n dX7_sure_66 rfl ?_
    refine wv_iload dX7_sure_67 rfl ?_
    refine wv_v1 oX7_letByFilms kX7_223 dX7_sure_69 (by omega) (by first | assumption | rfl) ⟨rfl, by decide⟩ (Nat.le_of_ble_eq_true rfl) (Nat.le_of_ble_eq_true rfl) (cW_letBy hRK t ht hKt g (frQ_V ht hf hVr) i (kn m tk) (by omega) (frQ_k hf hkr)) (fun v9 s9 J9 L9 R9 h9 => ?_)
    obtain ⟨rfl, rfl, hf9, hT9⟩ := h9
    have hfA := frQ_tr hf hf9
    have hRL : wr_RC R9 := frQ_R hfA hR
    refine wv_if_eq (tgt := 102) dX7_sure_72 (by decide) (fun h72 => ?_) (fun h72 => ?_)
    · rw [if10] at h72
      have hno := h72
      refine wv_iinc (v := nI (i + 1)) dX7_sure_102 rfl (nI_1 (i)) (by decide) ?_
      refine wv_goto (tgt := 58) dX7_sure_105 (by decide) ?_
      first
      | (have _ := hno
         have e : cn (fun a => fitS g a (kn m tk)) (i + 1) = cn (fun a => fitS g a (kn m tk)) i ∧ cn (fun a => fitS g a (kn m tk) && shw g a f mo x u) (i + 1) = cn (fun a => fitS g a (kn m tk) && shw g a f mo x u) i := by simp [cn, h72]
         rw [← e.1, ← e.2]
         exact wv_le (by simp [wr_leq, wr_s1, wr_s2, wr_wide]) (ih (i + 1) J9 L9 R9 (by omega) hfA))
      | (have e : nI (cn (fun a => fitS g a (kn m tk) && shw g a f mo x u) i) + (if lb (uL (gN g) (pit g i (mo - f) (ps0 g (lb u)))) x = true then 1 else 0) = nI (cn (fun a => fitS g a (kn m tk) && shw g a f mo x u) (i + 1)) := by
           unfold uL
           rw [lb_orb _ _ _ (by omega) x (by omega), lb_0]
           simp only [cn]
           rw [← nI_add]
           congr 1
           simp only [shw, hp, hx, decide_true, Bool.true_and, Bool.false_or]
           split <;> rfl
         have e1 : cn (fun a => fitS g a (kn m tk)) i + 1 = cn (fun a => fitS g a (kn m tk)) (i + 1) := by simp [cn, hp]
         rw [e, e1]
         exact wv_le (by simp [wr_leq, wr_s1, wr_s2, wr_wide]) (ih (i + 1) J8 L8 R8 (by omega) (frQ_tr hfA ⟨fun _ _ _ => rfl, fun b h1 _ => hf8 b h1, fun _ _ _ => rfl⟩)))
    · rw [if10] at h72
      have hp : fitS g i (kn m tk) = true := Decidable.not_not.mp h72
      have hga := fitS_ga hp hff hu
      have hR := hRL
      refine wv_iinc (v := nI (cn (fun a => fitS g a (kn m tk)) i + 1)) dX7_sure_75 rfl (nI_1 (cn (fun a => fitS g a (kn m tk)) i)) (by decide) ?_
      refine wv_iload dX7_sure_78 rfl ?_
      refine wv_aload_n dX7_sure_80 rfl ?_
      refine wv_getR fX7_56 dX7_sure_81 rfl (by first | assumption | rfl) (by first | exact hR _ _ _ rfl | assumption) ?_
      refine wv_aload_n dX7_sure_84 rfl ?_
      refine wv_getR fX7_65 dX7_sure_85 rfl (by first | assumption | rfl) (by first | exact hR _ _ _ rfl | assumption) ?_
      refine wv_iload_n dX7_sure_88 rfl ?_
      refine wv_v2 oX1_shownBy kX7_229 dX7_sure_89 (by omega) (by first | assumption | rfl) ⟨rfl, by decide⟩ (Nat.le_of_ble_eq_true rfl) (Nat.le_of_ble_eq_true rfl) (cF_shown hRL 37 t i f mo g (kn m tk) u rfl (Or.inl rfl) ht (frQ_V ht hfA hVr) hT9 (by omega) (frQ_k hfA hkr) hff hu hga hfm hm) (fun v8 s8 J8 L8 R8 h8 => ?_)
      obtain ⟨rfl, rfl, rfl, rfl, hf8⟩ := h8
      refine wv_iload_n dX7_sure_92 rfl ?_
      refine wv_s2e oX7_holds kX7_132 dX7_sure_93 (by omega) (Nat.le_of_ble_eq_true rfl) (Nat.le_of_ble_eq_true rfl) (cW_holds _ x (by omega)) ?_
      refine wv_s1e oX7_oneIf kX7_146 dX7_sure_96 (by omega) (Nat.le_of_ble_eq_true rfl) (Nat.le_of_ble_eq_true rfl) (cW_oneIf _) ?_
      refine wv_iadd dX7_sure_99 ?_
      refine wv_istore dX7_sure_100 (by decide) ?_
      refine wv_iinc (v := nI (i + 1)) dX7_sure_102 rfl (nI_1 (i)) (by decide) ?_
      refine wv_goto (tgt := 58) dX7_sure_105 (by decide) ?_
      first
      | (have _ := hno
         have e : cn (fun a => fitS g a (kn m tk)) (i + 1) = cn (fun a => fitS g a (kn m tk)) i ∧ cn (fun a => fitS g a (kn m tk) && shw g a f mo x u) (i + 1) = cn (fun a => fitS g a (kn m tk) && shw g a f mo x u) i := by simp [cn, h72]
         rw [← e.1, ← e.2]
         exact wv_le (by simp [wr_leq, wr_s1, wr_s2, wr_wide]) (ih (i + 1) J9 L9 R9 (by omega) hfA))
      | (have e : nI (cn (fun a => fitS g a (kn m tk) && shw g a f mo x u) i) + (if lb (uL (gN g) (pit g i (mo - f) (ps0 g (lb u)))) x = true then 1 else 0) = nI (cn (fun a => fitS g a (kn m tk) && shw g a f mo x u) (i + 1)) := by
           unfold uL
           rw [lb_orb _ _ _ (by omega) x (by omega), lb_0]
           simp only [cn]
           rw [← nI_add]
           congr 1
           simp only [shw, hp, hx, decide_true, Bool.true_and, Bool.false_or]
           split <;> rfl
         have e1 : cn (fun a => fitS g a (kn m tk)) i + 1 = cn (fun a => fitS g a (kn m tk)) (i + 1) := by simp [cn, hp]
         rw [e, e1]
         exact wv_le (by simp [wr_leq, wr_s1, wr_s2, wr_wide]) (ih (i + 1) J8 L8 R8 (by omega) (frQ_tr hfA ⟨fun _ _ _ => rfl, fun b h1 _ => hf8 b h1, fun _ _ _ => rfl⟩)))

set_option maxHeartbeats 4000000 in
set_option maxRecDepth 100000 in
theorem cW_sure {l : Launch} {I : wr_TI} {L : wr_TL} {R : wr_TR} (hR : wr_RC R) (t : Nat) (ht : t = 3 ∨ t = 10) (hto : R 0 1 = t + 1) (g : RG) (hV : rgV I L t g) (m : FM) (tk : Int32) (hM : fmV I L m) (hU : fmU g m) (x mo : Int32) : wr_P l 6 mX7_sure [.ref 0, .int x, .int mo, .int tk] SH I L R (fun v s' I' L' R' => v = some (.int (aSure g (kn m tk) x mo)) ∧ s' = SH ∧ frR I L R I' L' R') := by
  have hg := isG_of hR ht
  obtain ⟨-, g0, -⟩ := id hg
  have hn := hV.1
  have hn6 := hV.2.1
  have hn40 := hV.2.2.1
  have hVr := rgV_rc (m := m) (k := tk) ht hV
  have hkr := kV_rc (I := I) (L := L) (m := m) (k := tk) hU
  have hnr := hVr.1
  rcases hff : fst (fun x => (kn m tk x).isSome) 40 with _ | f
  · have h8 : rcF I m tk 40 30 8 = -1 := by rw [hkr.2.2.1, hff]; rfl
    refine wv_pad 3 ?_
    show wr_V l 6 mX7_sure 0 [some (.ref 0), some (.int x), some (.int mo), some (.int tk), none, none, none] [] SH I L R 0 0 _
    refine wv_aload_n dX7_sure_0 rfl ?_
    refine wv_getR fX7_56 dX7_sure_1 rfl (by first | assumption | rfl) (by first | exact hR _ _ _ rfl | assumption) ?_
    refine wv_iload_n dX7_sure_4 rfl ?_
    refine wv_v1u oX1_recall kX7_220 dX7_sure_5 (by omega) (by first | assumption | rfl) ⟨rfl, by decide⟩ (Nat.le_of_ble_eq_true rfl) (Nat.le_of_ble_eq_true rfl) (cF_recall hR m tk hM) ?_
    refine wv_aload_n dX7_sure_8 rfl ?_
    refine wv_getR fX7_19 dX7_sure_9 rfl (by first | assumption | rfl) (by first | exact hR _ _ _ rfl | assumption) ?_
    refine wv_iload_n dX7_sure_12 rfl ?_
    refine wv_v1e oX5_has kX7_125 dX7_sure_13 (by omega) (by first | assumption | rfl) ⟨rfl, by decide⟩ (Nat.le_of_ble_eq_true rfl) (Nat.le_of_ble_eq_true rfl) (cR_has t _ g0) ?_
    refine wv_if_eq (tgt := 47) dX7_sure_16 (by decide) (fun h16 => ?_) (fun h16 => ?_)
    · refine wv_iconst (v := (-1)) dX7_sure_47 (by decide) ?_
      refine wv_iret rfl dX7_sure_48 ?_
      refine ⟨?_, rfl, frR_of frQ_rf⟩
      unfold aSure
      rw [hff]
    · refine wv_aload_n dX7_sure_19 rfl ?_
      refine wv_getR fX7_56 dX7_sure_20 rfl (by first | assumption | rfl) (by first | exact hR _ _ _ rfl | assumption) ?_
      refine wv_getI fX7_226 dX7_sure_23 rfl (by first | assumption | rfl) ?_
      refine wv_iconst (v := (-1)) dX7_sure_26 (by decide) ?_
      refine wv_icmp_eq (tgt := 47) dX7_sure_27 (by decide) (fun h27 => ?_) (fun h27 => absurd h8 h27)
      refine wv_iconst (v := (-1)) dX7_sure_47 (by decide) ?_
      refine wv_iret rfl dX7_sure_48 ?_
      refine ⟨?_, rfl, frR_of frQ_rf⟩
      unfold aSure
      rw [hff]
  · have h8 : rcF I m tk 40 30 8 = nI f := by rw [hkr.2.2.1, hff]; rfl
    have hf40 : f < 40 := fst_lt hff
    obtain ⟨u, hu⟩ := Option.isSome_iff_exists.mp (fst_some hff).1
    refine wv_pad 3 ?_
    show wr_V l 6 mX7_sure 0 [some (.ref 0), some (.int x), some (.int mo), some (.int tk), none, none, none] [] SH I L R 0 0 _
    refine wv_aload_n dX7_sure_0 rfl ?_
    refine wv_getR fX7_56 dX7_sure_1 rfl (by first | assumption | rfl) (by first | exact hR _ _ _ rfl | assumption) ?_
    refine wv_iload_n dX7_sure_4 rfl ?_
    refine wv_v1u oX1_recall kX7_220 dX7_sure_5 (by omega) (by first | assumption | rfl) ⟨rfl, by decide⟩ (Nat.le_of_ble_eq_true rfl) (Nat.le_of_ble_eq_true rfl) (cF_recall hR m tk hM) ?_
    refine wv_aload_n dX7_sure_8 rfl ?_
    refine wv_getR fX7_19 dX7_sure_9 rfl (by first | assumption | rfl) (by first | exact hR _ _ _ rfl | assumption) ?_
    refine wv_iload_n dX7_sure_12 rfl ?_
    refine wv_v1e oX5_has kX7_125 dX7_sure_13 (by omega) (by first | assumption | rfl) ⟨rfl, by decide⟩ (Nat.le_of_ble_eq_true rfl) (Nat.le_of_ble_eq_true rfl) (cR_has t _ g0) ?_
    refine wv_if_eq (tgt := 47) dX7_sure_16 (by decide) (fun h16 => ?_) (fun h16 => ?_)
    · rw [hnr, if10] at h16
      refine wv_iconst (v := (-1)) dX7_sure_47 (by decide) ?_
      refine wv_iret rfl dX7_sure_48 ?_
      refine ⟨?_, rfl, frR_of frQ_rf⟩
      unfold aSure
      rw [hff]
      simp only
      rw [if_neg]
      grind
    · rw [hnr, if10] at h16
      have hx : oS g x := Decidable.not_not.mp h16
      refine wv_aload_n dX7_sure_19 rfl ?_
      refine wv_getR fX7_56 dX7_sure_20 rfl (by first | assumption | rfl) (by first | exact hR _ _ _ rfl | assumption) ?_
      refine wv_getI fX7_226 dX7_sure_23 rfl (by first | assumption | rfl) ?_
      refine wv_iconst (v := (-1)) dX7_sure_26 (by decide) ?_
      refine wv_icmp_eq (tgt := 47) dX7_sure_27 (by decide) (fun h27 => absurd h27 (by rw [h8]; exact nI_nm (by omega))) (fun h27 => ?_)
      refine wv_iload_n dX7_sure_30 rfl ?_
      refine wv_aload_n dX7_sure_31 rfl ?_
      refine wv_getR fX7_56 dX7_sure_32 rfl (by first | assumption | rfl) (by first | exact hR _ _ _ rfl | assumption) ?_
      refine wv_getI fX7_226 dX7_sure_35 rfl (by first | assumption | rfl) ?_
      refine wv_icmp_lt (tgt := 47) dX7_sure_38 (by decide) (fun h38 => ?_) (fun h38 => ?_)
      · rw [h8] at h38
        refine wv_iconst (v := (-1)) dX7_sure_47 (by decide) ?_
        refine wv_iret rfl dX7_sure_48 ?_
        refine ⟨?_, rfl, frR_of frQ_rf⟩
        unfold aSure
        rw [hff]
        simp only
        rw [if_neg]
        grind
      · rw [h8] at h38
        refine wv_iload_n dX7_sure_41 rfl ?_
        refine wv_bipush (v := 40) dX7_sure_42 (by decide) ?_
        refine wv_icmp_lt (tgt := 49) dX7_sure_44 (by decide) (fun h44 => ?_) (fun h44 => ?_)
        · have hmo : nI f ≤ mo := Int32.not_lt.mp h38
          obtain ⟨mn, hmn, rfl⟩ := ix_of (n := 40) ⟨Int32.le_trans (nI_pos' (by omega)) hmo, h44⟩ (by omega)
          obtain ⟨xn, hxn, rfl⟩ := ix_of hx (by omega)
          refine wv_iconst (v := nI (cn (fun a => fitS g a (kn m tk)) 0)) dX7_sure_49 rfl ?_
          refine wv_istore dX7_sure_50 (by decide) ?_
          refine wv_iconst (v := nI (cn (fun a => fitS g a (kn m tk) && shw g a f mn xn u) 0)) dX7_sure_52 rfl ?_
          refine wv_istore dX7_sure_53 (by decide) ?_
          refine wv_iconst (v := nI 0) dX7_sure_55 rfl ?_
          refine wv_istore dX7_sure_56 (by decide) ?_
          unfold aSure
          rw [hff]
          simp only
          rw [if_pos ⟨hx, hmo, h44⟩, hu, tN_nI (by omega), tN_nI (by omega)]
          exact wv_le (by simp [wr_leq, wr_s1, wr_s2, wr_wide]) (cW_sureL hR t ht hto g hV m tk hM hU f mn xn u hff hu ((nI_leI (by omega) (by omega)).mp hmo) hmn hxn 324 0 _ _ _ (by omega) frQ_rf)
        · refine wv_iconst (v := (-1)) dX7_sure_47 (by decide) ?_
          refine wv_iret rfl dX7_sure_48 ?_
          refine ⟨?_, rfl, frR_of frQ_rf⟩
          unfold aSure
          rw [hff]
          simp only
          rw [if_neg]
          grind

