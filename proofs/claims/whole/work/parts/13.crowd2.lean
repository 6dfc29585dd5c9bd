/-! class Crowd, on -/
def orb (x : Int64) (P : Nat → Bool) : Nat → Int64
  | 0 => x
  | k + 1 => if P k = true then orb x P k ||| (1 <<< ((nI k).toInt64 &&& 63)) else orb x P k
theorem lb_orb (x : Int64) (P : Nat → Bool) : ∀ (k : Nat), k ≤ 64 → ∀ s, s < 64 → lb (orb x P k) s = (lb x s || (decide (s < k) && P s)) := by
  intro k
  induction k with
  | zero => intro _ s _; simp [orb]
  | succ k ih =>
    intro hk s hs
    have hi := ih (by omega) s hs
    simp only [orb]
    by_cases hp : P k = true
    · rw [if_pos hp, lb_or, hi, lb_one k (by omega) hs]
      by_cases hsk : s = k
      · subst hsk; simp [hp]
      · have e : decide (s < k + 1) = decide (s < k) := by simp; omega
        rw [e]; simp [hsk]
    · rw [if_neg hp, hi]
      by_cases hsk : s = k
      · subst hsk; simp at hp; simp [hp]
      · have e : decide (s < k + 1) = decide (s < k) := by simp; omega
        rw [e]
theorem tu_lb {n y : Nat} (hy : y ≤ n) (hn : n ≤ 40) {x : Int64} (hx : ∀ i, n ≤ i → lb x i = false) (i : Nat) : lb (tu (nI n) (nI y) x) i = (decide (i < n) && lb x ((i + n - y) % n)) := by
  by_cases hi : i < 64
  · unfold tu us
    rw [lb_and, lb_or, lb_every n (by omega), lb_shl y (by omega) x hi, pk_sub hy, lb_ushr (n - y) (by omega)]
    by_cases hin : i < n
    · simp only [hin, decide_true, Bool.and_true, Bool.true_and]
      by_cases hyi : y ≤ i
      · have e : (i + n - y) % n = i - y := by
          rw [show i + n - y = (i - y) + n by omega, Nat.add_mod_right, Nat.mod_eq_of_lt (by omega)]
        rw [e]
        by_cases hy0 : y = 0
        · subst hy0; rw [hx (n - 0 + i) (by omega)]; simp
        · rw [hx (n - y + i) (by omega)]; simp [hyi]
      · have e : (i + n - y) % n = n - y + i := by rw [Nat.mod_eq_of_lt (by omega)]; omega
        rw [e]; simp [hyi]
    · simp [hin]
  · rw [lb_big (by omega)]
    have : ¬ i < n := by omega
    simp [this]
def drw (w : Int32) : Int32 := w * 1103515245 + 12345
def d10 (w : Int32) : Int32 := (w.toUInt32 >>> ((16 : Int32).toUInt32 &&& Int32.toUInt32 31)).toInt32 - (w.toUInt32 >>> ((16 : Int32).toUInt32 &&& Int32.toUInt32 31)).toInt32 / 10 * 10
def wy (a b : Int32) : Nat := if 0 < a ∧ b = 0 then 0 else if 0 < b ∧ a = 0 then 1 else 2
def bh (up rest v : Int32) : Int32 := if v < 10 then (if v < up then v + 1 else if 0 < rest then 11 else 0) else if v - 10 < rest then v + 1 else 0
set_option maxHeartbeats 4000000 in
set_option maxRecDepth 100000 in
theorem cC_stateOf {l : Launch} {I : wr_TI} {L : wr_TL} {R : wr_TR} (c s : Nat) (hc : isC R c) (hs : s < 40) : wr_E l 0 mX0_stateOf [.ref c, .int (nI s)] SH I L R (some (.int (I (c + 1) s))) I L R := by
  obtain ⟨z0, z1, c0, c1, c2, c3, c4, r0, r1, r2, r3⟩ := hc
  refine wv_pad 0 ?_
  show wr_V l 0 mX0_stateOf 0 [some (.ref c), some (.int (nI s))] [] SH I L R 0 0 _
  refine wv_iload_n dX0_stateOf_0 rfl ?_
  refine wv_if_lt (tgt := 19) dX0_stateOf_1 (by decide) (fun h1 => absurd h1 (nI_pos (by omega))) (fun h1 => ?_)
  refine wv_iload_n dX0_stateOf_4 rfl ?_
  refine wv_bipush (v := 40) dX0_stateOf_5 (by decide) ?_
  refine wv_icmp_ge (tgt := 19) dX0_stateOf_7 (by decide) (fun h7 => absurd h7 (nI_ge (b := 40) (by omega) (by omega))) (fun h7 => ?_)
  refine wv_aload_n dX0_stateOf_10 rfl ?_
  refine wv_getR fX0_9 dX0_stateOf_11 rfl (by first | assumption | rfl) (by first | exact hR _ _ _ rfl | assumption) ?_
  refine wv_iload_n dX0_stateOf_14 rfl ?_
  refine wv_ialdN dX0_stateOf_15 (by first | assumption | rfl) (by omega) (by decide) ?_
  refine wv_goto (tgt := 20) dX0_stateOf_16 (by decide) ?_
  refine wv_iret rfl dX0_stateOf_20 ?_
  exact ⟨rfl, rfl, rfl, rfl, rfl⟩

set_option maxHeartbeats 4000000 in
set_option maxRecDepth 100000 in
theorem cC_risesOf {l : Launch} {I : wr_TI} {L : wr_TL} {R : wr_TR} (c s : Nat) (hc : isC R c) (hs : s < 40) : wr_E l 0 mX0_risesOf [.ref c, .int (nI s)] SH I L R (some (.int (I (c + 2) s))) I L R := by
  obtain ⟨z0, z1, c0, c1, c2, c3, c4, r0, r1, r2, r3⟩ := hc
  refine wv_pad 0 ?_
  show wr_V l 0 mX0_risesOf 0 [some (.ref c), some (.int (nI s))] [] SH I L R 0 0 _
  refine wv_iload_n dX0_risesOf_0 rfl ?_
  refine wv_if_lt (tgt := 19) dX0_risesOf_1 (by decide) (fun h1 => absurd h1 (nI_pos (by omega))) (fun h1 => ?_)
  refine wv_iload_n dX0_risesOf_4 rfl ?_
  refine wv_bipush (v := 40) dX0_risesOf_5 (by decide) ?_
  refine wv_icmp_ge (tgt := 19) dX0_risesOf_7 (by decide) (fun h7 => absurd h7 (nI_ge (b := 40) (by omega) (by omega))) (fun h7 => ?_)
  refine wv_aload_n dX0_risesOf_10 rfl ?_
  refine wv_getR fX0_15 dX0_risesOf_11 rfl (by first | assumption | rfl) (by first | exact hR _ _ _ rfl | assumption) ?_
  refine wv_iload_n dX0_risesOf_14 rfl ?_
  refine wv_ialdN dX0_risesOf_15 (by first | assumption | rfl) (by omega) (by decide) ?_
  refine wv_goto (tgt := 20) dX0_risesOf_16 (by decide) ?_
  refine wv_iret rfl dX0_risesOf_20 ?_
  exact ⟨rfl, rfl, rfl, rfl, rfl⟩

set_option maxHeartbeats 4000000 in
set_option maxRecDepth 100000 in
theorem cC_risenBy {l : Launch} {I : wr_TI} {L : wr_TL} {R : wr_TR} (c : Nat) (x : Int32) (hc : isC R c) : wr_E l 0 mX0_risenBy [.ref c, .int x] SH I L R (some (.int (if 0 ≤ x ∧ x < 3 then I (c + 3) x.toNatClampNeg else -1))) I L R := by
  obtain ⟨z0, z1, c0, c1, c2, c3, c4, r0, r1, r2, r3⟩ := hc
  refine wv_pad 0 ?_
  show wr_V l 0 mX0_risenBy 0 [some (.ref c), some (.int x)] [] SH I L R 0 0 _
  refine wv_iload_n dX0_risenBy_0 rfl ?_
  refine wv_if_lt (tgt := 18) dX0_risenBy_1 (by decide) (fun h1 => ?_) (fun h1 => ?_)
  · refine wv_iconst (v := (-1)) dX0_risenBy_18 (by decide) ?_
    refine wv_iret rfl dX0_risenBy_19 ?_
    refine ⟨?_, rfl, rfl, rfl, rfl⟩
    grind
  · refine wv_iload_n dX0_risenBy_4 rfl ?_
    refine wv_iconst (v := 3) dX0_risenBy_5 (by decide) ?_
    refine wv_icmp_ge (tgt := 18) dX0_risenBy_6 (by decide) (fun h6 => ?_) (fun h6 => ?_)
    · refine wv_iconst (v := (-1)) dX0_risenBy_18 (by decide) ?_
      refine wv_iret rfl dX0_risenBy_19 ?_
      refine ⟨?_, rfl, rfl, rfl, rfl⟩
      grind
    · refine wv_aload_n dX0_risenBy_9 rfl ?_
      refine wv_getR fX0_18 dX0_risenBy_10 rfl (by first | assumption | rfl) (by first | exact hR _ _ _ rfl | assumption) ?_
      refine wv_iload_n dX0_risenBy_13 rfl ?_
      refine wv_iald dX0_risenBy_14 (by first | assumption | rfl) (vp_in_iff.mpr (by simp only [Int32.le_iff_toInt_le, Int32.lt_iff_toInt_lt] at *; simp at *; omega)) ?_
      refine wv_goto (tgt := 19) dX0_risenBy_15 (by decide) ?_
      refine wv_iret rfl dX0_risenBy_19 ?_
      refine ⟨?_, rfl, rfl, rfl, rfl⟩
      grind

set_option maxHeartbeats 4000000 in
set_option maxRecDepth 100000 in
theorem cC_draw {l : Launch} {I : wr_TI} {L : wr_TL} {R : wr_TR} (c : Nat) (hc : isC R c) : wr_E l 0 mX0_drawOfTen [.ref c] SH I L R (some (.int (d10 (drw (I c 8))))) (wr_uI I c 8 (drw (I c 8))) L R := by
  obtain ⟨z0, z1, c0, c1, c2, c3, c4, r0, r1, r2, r3⟩ := hc
  refine wv_pad 0 ?_
  show wr_V l 0 mX0_drawOfTen 0 [some (.ref c)] [] SH I L R 0 0 _
  refine wv_aload_n dX0_drawOfTen_0 rfl ?_
  refine wv_aload_n dX0_drawOfTen_1 rfl ?_
  refine wv_getI fX0_24 dX0_drawOfTen_2 rfl (by first | assumption | rfl) ?_
  refine wv_ldc nX0_116 dX0_drawOfTen_5 ?_
  refine wv_imul dX0_drawOfTen_7 ?_
  refine wv_sipush (v := 12345) dX0_drawOfTen_8 (by decide) ?_
  refine wv_iadd dX0_drawOfTen_11 ?_
  refine wv_putI fX0_24 dX0_drawOfTen_12 rfl rfl rfl rfl (by first | assumption | rfl) ?_
  refine wv_aload_n dX0_drawOfTen_15 rfl ?_
  refine wv_getI fX0_24 dX0_drawOfTen_16 rfl (by first | assumption | rfl) ?_
  refine wv_bipush (v := 16) dX0_drawOfTen_19 (by decide) ?_
  refine wv_iushr dX0_drawOfTen_21 ?_
  refine wv_bipush (v := 10) dX0_drawOfTen_22 (by decide) ?_
  refine wv_irem dX0_drawOfTen_24 (by decide) ?_
  refine wv_iret rfl dX0_drawOfTen_25 ?_
  refine ⟨?_, rfl, rfl, rfl, rfl⟩
  simp [wr_uI, d10, drw]

set_option maxHeartbeats 4000000 in
set_option maxRecDepth 100000 in
theorem cC_countWay {l : Launch} {I : wr_TI} {L : wr_TL} {R : wr_TR} (c k : Nat) (hc : isC R c) (hk : k < 3) : wr_E l 0 mX0_countWay [.ref c, .int (nI k)] SH I L R none (wr_uI I (c + 3) k (I (c + 3) k + 1)) L R := by
  obtain ⟨z0, z1, c0, c1, c2, c3, c4, r0, r1, r2, r3⟩ := hc
  refine wv_pad 0 ?_
  show wr_V l 0 mX0_countWay 0 [some (.ref c), some (.int (nI k))] [] SH I L R 0 0 _
  refine wv_iload_n dX0_countWay_0 rfl ?_
  refine wv_if_lt (tgt := 19) dX0_countWay_1 (by decide) (fun h1 => absurd h1 (nI_pos (by omega))) (fun h1 => ?_)
  refine wv_iload_n dX0_countWay_4 rfl ?_
  refine wv_iconst (v := 3) dX0_countWay_5 (by decide) ?_
  refine wv_icmp_ge (tgt := 19) dX0_countWay_6 (by decide) (fun h6 => absurd h6 (nI_ge (b := 3) (by omega) (by omega))) (fun h6 => ?_)
  refine wv_aload_n dX0_countWay_9 rfl ?_
  refine wv_getR fX0_18 dX0_countWay_10 rfl (by first | assumption | rfl) (by first | exact hR _ _ _ rfl | assumption) ?_
  refine wv_iload_n dX0_countWay_13 rfl ?_
  refine wv_dup2 dX0_countWay_14 rfl rfl ?_
  refine wv_ialdN dX0_countWay_15 (by first | assumption | rfl) (by omega) (by decide) ?_
  refine wv_iconst (v := 1) dX0_countWay_16 (by decide) ?_
  refine wv_iadd dX0_countWay_17 ?_
  refine wv_iastN dX0_countWay_18 (by first | assumption | rfl) (by omega) (by decide) ?_
  refine wv_ret (x := ()) rfl dX0_countWay_19 ?_
  exact ⟨rfl, rfl, rfl, rfl, rfl⟩

set_option maxHeartbeats 4000000 in
set_option maxRecDepth 100000 in
theorem cC_wayOf {l : Launch} {I : wr_TI} {L : wr_TL} {R : wr_TR} (a b : Int32) : wr_E l 0 mX0_wayOf [.int a, .int b] SH I L R (some (.int (nI (wy a b)))) I L R := by
  refine wv_pad 0 ?_
  show wr_V l 0 mX0_wayOf 0 [some (.int a), some (.int b)] [] SH I L R 0 0 _
  refine wv_iload_n dX0_wayOf_0 rfl ?_
  refine wv_if_le (tgt := 10) dX0_wayOf_1 (by decide) (fun h1 => ?_) (fun h1 => ?_)
  · refine wv_iload_n dX0_wayOf_10 rfl ?_
    refine wv_if_le (tgt := 22) dX0_wayOf_11 (by decide) (fun h11 => ?_) (fun h11 => ?_)
    · refine wv_iconst (v := 2) dX0_wayOf_22 (by decide) ?_
      refine wv_iret rfl dX0_wayOf_23 ?_
      refine ⟨?_, rfl, rfl, rfl, rfl⟩
      have n0 : nI 0 = 0 := rfl
      have n1 : nI 1 = 1 := rfl
      have n2 : nI 2 = 2 := rfl
      unfold wy
      grind
    · refine wv_iload_n dX0_wayOf_14 rfl ?_
      refine wv_if_ne (tgt := 22) dX0_wayOf_15 (by decide) (fun h15 => ?_) (fun h15 => ?_)
      · refine wv_iconst (v := 2) dX0_wayOf_22 (by decide) ?_
        refine wv_iret rfl dX0_wayOf_23 ?_
        refine ⟨?_, rfl, rfl, rfl, rfl⟩
        have n0 : nI 0 = 0 := rfl
        have n1 : nI 1 = 1 := rfl
        have n2 : nI 2 = 2 := rfl
        unfold wy
        grind
      · refine wv_iconst (v := 1) dX0_wayOf_18 (by decide) ?_
        refine wv_goto (tgt := 23) dX0_wayOf_19 (by decide) ?_
        refine wv_iret rfl dX0_wayOf_23 ?_
        refine ⟨?_, rfl, rfl, rfl, rfl⟩
        have n0 : nI 0 = 0 := rfl
        have n1 : nI 1 = 1 := rfl
        have n2 : nI 2 = 2 := rfl
        unfold wy
        grind
  · refine wv_iload_n dX0_wayOf_4 rfl ?_
    refine wv_if_ne (tgt := 10) dX0_wayOf_5 (by decide) (fun h5 => ?_) (fun h5 => ?_)
    · refine wv_iload_n dX0_wayOf_10 rfl ?_
      refine wv_if_le (tgt := 22) dX0_wayOf_11 (by decide) (fun h11 => ?_) (fun h11 => ?_)
      · refine wv_iconst (v := 2) dX0_wayOf_22 (by decide) ?_
        refine wv_iret rfl dX0_wayOf_23 ?_
        refine ⟨?_, rfl, rfl, rfl, rfl⟩
        have n0 : nI 0 = 0 := rfl
        have n1 : nI 1 = 1 := rfl
        have n2 : nI 2 = 2 := rfl
        unfold wy
        grind
      · refine wv_iload_n dX0_wayOf_14 rfl ?_
        refine wv_if_ne (tgt := 22) dX0_wayOf_15 (by decide) (fun h15 => ?_) (fun h15 => ?_)
        · refine wv_iconst (v := 2) dX0_wayOf_22 (by decide) ?_
          refine wv_iret rfl dX0_wayOf_23 ?_
          refine ⟨?_, rfl, rfl, rfl, rfl⟩
          have n0 : nI 0 = 0 := rfl
          have n1 : nI 1 = 1 := rfl
          have n2 : nI 2 = 2 := rfl
          unfold wy
          grind
        · refine wv_iconst (v := 1) dX0_wayOf_18 (by decide) ?_
          refine wv_goto (tgt := 23) dX0_wayOf_19 (by decide) ?_
          refine wv_iret rfl dX0_wayOf_23 ?_
          refine ⟨?_, rfl, rfl, rfl, rfl⟩
          have n0 : nI 0 = 0 := rfl
          have n1 : nI 1 = 1 := rfl
          have n2 : nI 2 = 2 := rfl
          unfold wy
          grind
    · refine wv_iconst (v := 0) dX0_wayOf_8 (by decide) ?_
      refine wv_iret rfl dX0_wayOf_9 ?_
      refine ⟨?_, rfl, rfl, rfl, rfl⟩
      have n0 : nI 0 = 0 := rfl
      have n1 : nI 1 = 1 := rfl
      have n2 : nI 2 = 2 := rfl
      unfold wy
      grind

set_option maxHeartbeats 4000000 in
set_option maxRecDepth 100000 in
theorem cC_behind {l : Launch} {I : wr_TI} {L : wr_TL} {R : wr_TR} (t : Nat) (v : Int32) (hs : SH[t]? = some (.inr 5)) : wr_E l 0 mX0_stateBehind [.ref t, .int v] SH I L R (some (.int (bh (I t 9) (I t 10) v))) I L R := by
  refine wv_pad 0 ?_
  show wr_V l 0 mX0_stateBehind 0 [some (.ref t), some (.int v)] [] SH I L R 0 0 _
  refine wv_iload_n dX0_stateBehind_0 rfl ?_
  refine wv_bipush (v := 10) dX0_stateBehind_1 (by decide) ?_
  refine wv_icmp_ge (tgt := 32) dX0_stateBehind_3 (by decide) (fun h3 => ?_) (fun h3 => ?_)
  · refine wv_iload_n dX0_stateBehind_32 rfl ?_
    refine wv_bipush (v := 10) dX0_stateBehind_33 (by decide) ?_
    refine wv_isub dX0_stateBehind_35 ?_
    refine wv_aload_n dX0_stateBehind_36 rfl ?_
    refine wv_getI fX0_132 dX0_stateBehind_37 rfl (by first | assumption | rfl) ?_
    refine wv_icmp_ge (tgt := 49) dX0_stateBehind_40 (by decide) (fun h40 => ?_) (fun h40 => ?_)
    · refine wv_iconst (v := 0) dX0_stateBehind_49 (by decide) ?_
      refine wv_iret rfl dX0_stateBehind_50 ?_
      refine ⟨?_, rfl, rfl, rfl, rfl⟩
      unfold bh
      grind
    · refine wv_iload_n dX0_stateBehind_43 rfl ?_
      refine wv_iconst (v := 1) dX0_stateBehind_44 (by decide) ?_
      refine wv_iadd dX0_stateBehind_45 ?_
      refine wv_goto (tgt := 50) dX0_stateBehind_46 (by decide) ?_
      refine wv_iret rfl dX0_stateBehind_50 ?_
      refine ⟨?_, rfl, rfl, rfl, rfl⟩
      unfold bh
      grind
  · refine wv_iload_n dX0_stateBehind_6 rfl ?_
    refine wv_aload_n dX0_stateBehind_7 rfl ?_
    refine wv_getI fX0_129 dX0_stateBehind_8 rfl (by first | assumption | rfl) ?_
    refine wv_icmp_ge (tgt := 18) dX0_stateBehind_11 (by decide) (fun h11 => ?_) (fun h11 => ?_)
    · refine wv_aload_n dX0_stateBehind_18 rfl ?_
      refine wv_getI fX0_132 dX0_stateBehind_19 rfl (by first | assumption | rfl) ?_
      refine wv_if_le (tgt := 30) dX0_stateBehind_22 (by decide) (fun h22 => ?_) (fun h22 => ?_)
      · refine wv_iconst (v := 0) dX0_stateBehind_30 (by decide) ?_
        refine wv_iret rfl dX0_stateBehind_31 ?_
        refine ⟨?_, rfl, rfl, rfl, rfl⟩
        unfold bh
        grind
      · refine wv_bipush (v := 11) dX0_stateBehind_25 (by decide) ?_
        refine wv_goto (tgt := 31) dX0_stateBehind_27 (by decide) ?_
        refine wv_iret rfl dX0_stateBehind_31 ?_
        refine ⟨?_, rfl, rfl, rfl, rfl⟩
        unfold bh
        grind
    · refine wv_iload_n dX0_stateBehind_14 rfl ?_
      refine wv_iconst (v := 1) dX0_stateBehind_15 (by decide) ?_
      refine wv_iadd dX0_stateBehind_16 ?_
      refine wv_iret rfl dX0_stateBehind_17 ?_
      refine ⟨?_, rfl, rfl, rfl, rfl⟩
      unfold bh
      grind

def tr (P : Nat → Bool) (I : wr_TI) (c i : Nat) : wr_TI := fun a b => if a = c + 1 ∧ b < i ∧ P b = true then 1 else if a = c + 2 ∧ b < i ∧ P b = true then I (c + 2) b + 1 else I a b
def trL (P : Nat → Bool) (L : wr_TL) (c i : Nat) : wr_TL := fun a b => if a = c ∧ b = 4 then orb (L c 4) P i else if a = c ∧ b = 5 then orb (L c 5) P i else L a b
def tP (I : wr_TI) (L : wr_TL) (c t : Nat) (who : Int64) : Nat → Bool := fun b => lb who b && !lb (L t 6) b && decide (I (c + 1) b = 0)
def tI (P : Nat → Bool) (I : wr_TI) (c : Nat) : wr_TI := fun a b => if a = c ∧ b = 7 then I c 7 + 1 else tr P I c 40 a b
set_option maxHeartbeats 4000000 in
set_option maxRecDepth 100000 in
theorem cC_raise {l : Launch} {I : wr_TI} {L : wr_TL} {R : wr_TR} (c t : Nat) (who : Int64) (hc : isC R c) (hg : isG R t) : wr_E l 1 mX0_raise [.ref c, .ref t, .long who] SH I L R (some (.int (nI (cn (tP I L c t who) 40)))) (tI (tP I L c t who) I c) (trL (tP I L c t who) L c 40) R := by
  obtain ⟨z0, z1, c0, c1, c2, c3, c4, r0, r1, r2, r3⟩ := hc
  obtain ⟨y0, g0, g1, g2, g3, g4, g5, g6, p0, p1, p2, p3, p4, p5⟩ := hg
  generalize hP : tP I L c t who = P
  have hct : t ≠ c := by omega
  have lp : ∀ (k i : Nat), i + k = 40 → wr_V l 1 mX0_raise 6 [some (.ref c), some (.ref t), some (.long who), none, some (.int (nI (cn P i))), some (.int (nI i))] [] SH (tr P I c i) (trL P L c i) R 0 0 (wr_EQ (some (.int (nI (cn P 40)))) SH (tI P I c) (trL P L c 40) R) := by
    intro k
    induction k with
    | zero =>
      intro i hi
      obtain rfl : i = 40 := by omega
      refine wv_iload dX0_raise_6 rfl ?_
      refine wv_bipush (v := 40) dX0_raise_8 (by decide) ?_
      refine wv_icmp_ge (tgt := 95) dX0_raise_10 (by decide) (fun h10 => ?_) (fun h10 => absurd (nI_le (a := 40) (by omega) (by omega)) h10)
      refine wv_aload_n dX0_raise_95 rfl ?_
      refine wv_dup dX0_raise_96 rfl ?_
      refine wv_getI fX0_38 dX0_raise_97 rfl (by first | assumption | rfl) ?_
      refine wv_iconst (v := 1) dX0_raise_100 (by decide) ?_
      refine wv_iadd dX0_raise_101 ?_
      refine wv_putI fX0_38 dX0_raise_102 rfl rfl rfl rfl (by first | assumption | rfl) ?_
      refine wv_iload dX0_raise_105 rfl ?_
      refine wv_iret rfl dX0_raise_107 ?_
      refine ⟨rfl, rfl, ?_, rfl, rfl⟩
      funext a b; simp only [wr_uI, tI, tr]; grind
    | succ k ih =>
      intro i hi
      have hLt : trL P L c i t 6 = L t 6 := by simp [trL, hct]
      have hsi : tr P I c i (c + 1) i = I (c + 1) i := by simp [tr]
      have hri : tr P I c i (c + 2) i = I (c + 2) i := by simp [tr]
      have hPi : P i = (lb who i && !lb (L t 6) i && decide (I (c + 1) i = 0)) := by rw [← hP]; rfl
      have hlb : lb (who &&& (L t 6 ^^^ (-1))) i = (lb who i && !lb (L t 6) i) := by rw [lb_and, lb_not _ (by omega)]
      have hcn : cn P (i + 1) = cn P i + (if P i = true then 1 else 0) := rfl
      refine wv_iload dX0_raise_6 rfl ?_
      refine wv_bipush (v := 40) dX0_raise_8 (by decide) ?_
      refine wv_icmp_ge (tgt := 95) dX0_raise_10 (by decide) (fun h10 => absurd h10 (nI_ge (b := 40) (by omega) (by omega))) (fun h10 => ?_)
      refine wv_lload_n dX0_raise_13 rfl ?_
      refine wv_aload_n dX0_raise_14 rfl ?_
      refine wv_getL fX0_41 dX0_raise_15 rfl (by first | assumption | rfl) ?_
      rw [hLt]
      refine wv_ldc2_w nX0_46 dX0_raise_18 ?_
      refine wv_lxor dX0_raise_21 ?_
      refine wv_land dX0_raise_22 ?_
      refine wv_iload dX0_raise_23 rfl ?_
      refine wv_s2e oX7_holds kX0_48 dX0_raise_25 (by omega) (Nat.le_of_ble_eq_true rfl) (Nat.le_of_ble_eq_true rfl) (cW_holds _ _ (by omega)) ?_
      refine wv_if_eq (tgt := 89) dX0_raise_28 (by decide) (fun h28 => ?_) (fun h28 => ?_)
      · have hPf : P i = false := by rw [hPi, ← hlb]; cases hz : lb (who &&& (L t 6 ^^^ (-1))) i <;> simp_all
        refine wv_iinc (v := nI (i + 1)) dX0_raise_89 rfl (nI_1 (i)) (by decide) ?_
        refine wv_goto (tgt := 6) dX0_raise_92 (by decide) ?_
        first
        | (have e9 : cn P i = cn P (i + 1) := by rw [hcn, hPf]; rfl
           rw [e9]
           refine wv_I (I' := tr P I c (i + 1)) (fun a b => by simp only [wr_uI, tr]; grind) (wv_L (L' := trL P L c (i + 1)) (fun a b => by simp only [wr_uL, trL, orb]; grind) ?_)
           exact wv_le (by simp [wr_leq, wr_s1, wr_s2, wr_wide]) (ih (i + 1) (by omega)))
        | (refine wv_I (I' := tr P I c (i + 1)) (fun a b => by simp only [wr_uI, tr]; grind) (wv_L (L' := trL P L c (i + 1)) (fun a b => by simp only [wr_uL, trL, orb]; grind) ?_)
           exact wv_le (by simp [wr_leq, wr_s1, wr_s2, wr_wide]) (ih (i + 1) (by omega)))
      · have hz : lb (who &&& (L t 6 ^^^ (-1))) i = true := by cases hz : lb (who &&& (L t 6 ^^^ (-1))) i <;> simp_all
        refine wv_aload_n dX0_raise_31 rfl ?_
        refine wv_getR fX0_9 dX0_raise_32 rfl (by first | assumption | rfl) (by first | exact hR _ _ _ rfl | assumption) ?_
        refine wv_iload dX0_raise_35 rfl ?_
        refine wv_ialdN dX0_raise_37 (by first | assumption | rfl) (by omega) (by decide) ?_
        refine wv_if_ne (tgt := 89) dX0_raise_38 (by decide) (fun h38 => ?_) (fun h38 => ?_)
        · have hPf : P i = false := by rw [hPi]; rw [hsi] at h38; simp [h38]
          refine wv_iinc (v := nI (i + 1)) dX0_raise_89 rfl (nI_1 (i)) (by decide) ?_
          refine wv_goto (tgt := 6) dX0_raise_92 (by decide) ?_
          first
          | (have e9 : cn P i = cn P (i + 1) := by rw [hcn, hPf]; rfl
             rw [e9]
             refine wv_I (I' := tr P I c (i + 1)) (fun a b => by simp only [wr_uI, tr]; grind) (wv_L (L' := trL P L c (i + 1)) (fun a b => by simp only [wr_uL, trL, orb]; grind) ?_)
             exact wv_le (by simp [wr_leq, wr_s1, wr_s2, wr_wide]) (ih (i + 1) (by omega)))
          | (refine wv_I (I' := tr P I c (i + 1)) (fun a b => by simp only [wr_uI, tr]; grind) (wv_L (L' := trL P L c (i + 1)) (fun a b => by simp only [wr_uL, trL, orb]; grind) ?_)
             exact wv_le (by simp [wr_leq, wr_s1, wr_s2, wr_wide]) (ih (i + 1) (by omega)))
        · have hPt : P i = true := by rw [hPi, ← hlb, hz]; rw [hsi] at h38; simp [h38]
          refine wv_aload_n dX0_raise_41 rfl ?_
          refine wv_getR fX0_9 dX0_raise_42 rfl (by first | assumption | rfl) (by first | exact hR _ _ _ rfl | assumption) ?_
          refine wv_iload dX0_raise_45 rfl ?_
          refine wv_iconst (v := 1) dX0_raise_47 (by decide) ?_
          refine wv_iastN dX0_raise_48 (by first | assumption | rfl) (by omega) (by decide) ?_
          refine wv_aload_n dX0_raise_49 rfl ?_
          refine wv_getR fX0_15 dX0_raise_50 rfl (by first | assumption | rfl) (by first | exact hR _ _ _ rfl | assumption) ?_
          refine wv_iload dX0_raise_53 rfl ?_
          refine wv_dup2 dX0_raise_55 rfl rfl ?_
          refine wv_ialdN dX0_raise_56 (by first | assumption | rfl) (by omega) (by decide) ?_
          refine wv_iconst (v := 1) dX0_raise_57 (by decide) ?_
          refine wv_iadd dX0_raise_58 ?_
          refine wv_iastN dX0_raise_59 (by first | assumption | rfl) (by omega) (by decide) ?_
          refine wv_aload_n dX0_raise_60 rfl ?_
          refine wv_dup dX0_raise_61 rfl ?_
          refine wv_getL fX0_28 dX0_raise_62 rfl (by first | assumption | rfl) ?_
          refine wv_lconst (v := 1) dX0_raise_65 (by decide) ?_
          refine wv_iload dX0_raise_66 rfl ?_
          refine wv_lshl dX0_raise_68 ?_
          refine wv_lor dX0_raise_69 ?_
          refine wv_putL fX0_28 dX0_raise_70 rfl rfl rfl rfl (by first | assumption | rfl) ?_
          refine wv_aload_n dX0_raise_73 rfl ?_
          refine wv_dup dX0_raise_74 rfl ?_
          refine wv_getL fX0_32 dX0_raise_75 rfl (by first | assumption | rfl) ?_
          refine wv_lconst (v := 1) dX0_raise_78 (by decide) ?_
          refine wv_iload dX0_raise_79 rfl ?_
          refine wv_lshl dX0_raise_81 ?_
          refine wv_lor dX0_raise_82 ?_
          refine wv_putL fX0_32 dX0_raise_83 rfl rfl rfl rfl (by first | assumption | rfl) ?_
          refine wv_iinc (v := nI (cn P (i + 1))) dX0_raise_86 rfl (by rw [hcn, if_pos hPt]; exact nI_1 _) (by decide) ?_
          refine wv_iinc (v := nI (i + 1)) dX0_raise_89 rfl (nI_1 (i)) (by decide) ?_
          refine wv_goto (tgt := 6) dX0_raise_92 (by decide) ?_
          first
          | (have e9 : cn P i = cn P (i + 1) := by rw [hcn, hPf]; rfl
             rw [e9]
             refine wv_I (I' := tr P I c (i + 1)) (fun a b => by simp only [wr_uI, tr]; grind) (wv_L (L' := trL P L c (i + 1)) (fun a b => by simp only [wr_uL, trL, orb]; grind) ?_)
             exact wv_le (by simp [wr_leq, wr_s1, wr_s2, wr_wide]) (ih (i + 1) (by omega)))
          | (refine wv_I (I' := tr P I c (i + 1)) (fun a b => by simp only [wr_uI, tr]; grind) (wv_L (L' := trL P L c (i + 1)) (fun a b => by simp only [wr_uL, trL, orb]; grind) ?_)
             exact wv_le (by simp [wr_leq, wr_s1, wr_s2, wr_wide]) (ih (i + 1) (by omega)))
  refine wv_pad 2 ?_
  show wr_V l 1 mX0_raise 0 [some (.ref c), some (.ref t), some (.long who), none, none, none] [] SH I L R 0 0 _
  refine wv_iconst (v := nI (cn P 0)) dX0_raise_0 rfl ?_
  refine wv_istore dX0_raise_1 (by decide) ?_
  refine wv_iconst (v := nI 0) dX0_raise_3 rfl ?_
  refine wv_istore dX0_raise_4 (by decide) ?_
  refine wv_I (I' := tr P I c 0) (fun a b => by simp only [tr]; grind) (wv_L (L' := trL P L c 0) (fun a b => by simp only [trL, orb]; grind) ?_)
  exact wv_le (by simp [wr_leq, wr_s1, wr_s2, wr_wide]) (lp 40 0 (by omega))

