/-! films -/
abbrev FM : Type := Nat × (Nat → Nat) × (Nat → Int64) × (Nat → Int32) × (Nat → Int32)
def fmC (m : FM) (f : Nat) (k : Int32) : Bool := decide (m.2.2.2.1 f ≤ k) && !(decide (m.2.2.2.2 f ≠ -1) && decide (m.2.2.2.2 f ≤ k))
/-- the films in the class's cells -/
def fmV (I : wr_TI) (L : wr_TL) (m : FM) : Prop := I 30 6 = nI m.1 ∧ m.1 ≤ 60 ∧ (∀ f, f < m.1 → I 31 f = nI (m.2.1 f) ∧ m.2.1 f < 40 ∧ L 32 f = m.2.2.1 f ∧ I 33 f = m.2.2.2.1 f ∧ I 34 f = m.2.2.2.2 f)
def knG (m : FM) (k : Int32) : Nat → Nat → Option Int64
  | 0, _ => none
  | f + 1, x => if fmC m f k = true ∧ m.2.1 f = x then some (m.2.2.1 f) else knG m k f x
def kn (m : FM) (k : Int32) : Nat → Option Int64 := knG m k m.1
def fst (p : Nat → Bool) : Nat → Option Nat
  | 0 => none
  | x + 1 => match fst p x with
    | some y => some y
    | none => if p x = true then some x else none
def lst (p : Nat → Bool) : Nat → Option Nat
  | 0 => none
  | x + 1 => if p x = true then some x else lst p x
def oI (x : Option Nat) : Int32 := match x with
  | none => -1
  | some y => nI y
def kS (m : FM) (k : Int32) : Nat → Bool := fun x => (kn m k x).isSome
set_option maxHeartbeats 4000000 in
set_option maxRecDepth 100000 in
theorem cF_counts {l : Launch} {I : wr_TI} {L : wr_TL} {R : wr_TR} (hR : wr_RC R) (m : FM) (f : Nat) (k : Int32) (hM : fmV I L m) (hf : f < m.1) : wr_E l 0 mX1_counts [.ref 30, .int (nI f), .int k] SH I L R (some (.int (if fmC m f k = true then 1 else 0))) I L R := by
  obtain ⟨m0, m1, m2⟩ := hM
  obtain ⟨f1, f2, f3, f4, f5⟩ := m2 f hf
  refine wv_pad 1 ?_
  show wr_V l 0 mX1_counts 0 [some (.ref 30), some (.int (nI f)), some (.int k), none] [] SH I L R 0 0 _
  refine wv_aload_n dX1_counts_0 rfl ?_
  refine wv_getR fX1_22 dX1_counts_1 rfl (by first | assumption | rfl) (by first | exact hR _ _ _ rfl | assumption) ?_
  refine wv_iload_n dX1_counts_4 rfl ?_
  refine wv_ialdN dX1_counts_5 (by first | assumption | rfl) (by omega) (by decide) ?_
  refine wv_iconst (v := (-1)) dX1_counts_6 (by decide) ?_
  refine wv_icmp_eq (tgt := 24) dX1_counts_7 (by decide) (fun h7 => ?_) (fun h7 => ?_)
  · refine wv_iconst (v := 0) dX1_counts_24 (by decide) ?_
    refine wv_istore_k (i := 3) dX1_counts_25 rfl (by decide) ?_
    refine wv_aload_n dX1_counts_26 rfl ?_
    refine wv_getR fX1_19 dX1_counts_27 rfl (by first | assumption | rfl) (by first | exact hR _ _ _ rfl | assumption) ?_
    refine wv_iload_n dX1_counts_30 rfl ?_
    refine wv_ialdN dX1_counts_31 (by first | assumption | rfl) (by omega) (by decide) ?_
    refine wv_iload_n dX1_counts_32 rfl ?_
    refine wv_icmp_gt (tgt := 44) dX1_counts_33 (by decide) (fun h33 => ?_) (fun h33 => ?_)
    · refine wv_iconst (v := 0) dX1_counts_44 (by decide) ?_
      refine wv_zret rfl rfl dX1_counts_45 ?_
      refine ⟨?_, rfl, rfl, rfl, rfl⟩
      simp only [f4, f5, Int32.not_lt] at *
      unfold fmC
      first | (exfalso; simp_all; done) | (simp_all [Int32.not_lt, Int32.not_le]; done) | (simp_all [Int32.not_lt, Int32.not_le]; grind)
    · refine wv_iload_n dX1_counts_36 rfl ?_
      refine wv_if_ne (tgt := 44) dX1_counts_37 (by decide) (fun h37 => ?_) (fun h37 => ?_)
      · refine wv_iconst (v := 0) dX1_counts_44 (by decide) ?_
        refine wv_zret rfl rfl dX1_counts_45 ?_
        refine ⟨?_, rfl, rfl, rfl, rfl⟩
        simp only [f4, f5, Int32.not_lt] at *
        unfold fmC
        first | (exfalso; simp_all; done) | (simp_all [Int32.not_lt, Int32.not_le]; done) | (simp_all [Int32.not_lt, Int32.not_le]; grind)
      · refine wv_iconst (v := 1) dX1_counts_40 (by decide) ?_
        refine wv_goto (tgt := 45) dX1_counts_41 (by decide) ?_
        refine wv_zret rfl rfl dX1_counts_45 ?_
        refine ⟨?_, rfl, rfl, rfl, rfl⟩
        simp only [f4, f5, Int32.not_lt] at *
        unfold fmC
        first | (exfalso; simp_all; done) | (simp_all [Int32.not_lt, Int32.not_le]; done) | (simp_all [Int32.not_lt, Int32.not_le]; grind)
  · refine wv_aload_n dX1_counts_10 rfl ?_
    refine wv_getR fX1_22 dX1_counts_11 rfl (by first | assumption | rfl) (by first | exact hR _ _ _ rfl | assumption) ?_
    refine wv_iload_n dX1_counts_14 rfl ?_
    refine wv_ialdN dX1_counts_15 (by first | assumption | rfl) (by omega) (by decide) ?_
    refine wv_iload_n dX1_counts_16 rfl ?_
    refine wv_icmp_gt (tgt := 24) dX1_counts_17 (by decide) (fun h17 => ?_) (fun h17 => ?_)
    · refine wv_iconst (v := 0) dX1_counts_24 (by decide) ?_
      refine wv_istore_k (i := 3) dX1_counts_25 rfl (by decide) ?_
      refine wv_aload_n dX1_counts_26 rfl ?_
      refine wv_getR fX1_19 dX1_counts_27 rfl (by first | assumption | rfl) (by first | exact hR _ _ _ rfl | assumption) ?_
      refine wv_iload_n dX1_counts_30 rfl ?_
      refine wv_ialdN dX1_counts_31 (by first | assumption | rfl) (by omega) (by decide) ?_
      refine wv_iload_n dX1_counts_32 rfl ?_
      refine wv_icmp_gt (tgt := 44) dX1_counts_33 (by decide) (fun h33 => ?_) (fun h33 => ?_)
      · refine wv_iconst (v := 0) dX1_counts_44 (by decide) ?_
        refine wv_zret rfl rfl dX1_counts_45 ?_
        refine ⟨?_, rfl, rfl, rfl, rfl⟩
        simp only [f4, f5, Int32.not_lt] at *
        unfold fmC
        first | (exfalso; simp_all; done) | (simp_all [Int32.not_lt, Int32.not_le]; done) | (simp_all [Int32.not_lt, Int32.not_le]; grind)
      · refine wv_iload_n dX1_counts_36 rfl ?_
        refine wv_if_ne (tgt := 44) dX1_counts_37 (by decide) (fun h37 => ?_) (fun h37 => ?_)
        · refine wv_iconst (v := 0) dX1_counts_44 (by decide) ?_
          refine wv_zret rfl rfl dX1_counts_45 ?_
          refine ⟨?_, rfl, rfl, rfl, rfl⟩
          simp only [f4, f5, Int32.not_lt] at *
          unfold fmC
          first | (exfalso; simp_all; done) | (simp_all [Int32.not_lt, Int32.not_le]; done) | (simp_all [Int32.not_lt, Int32.not_le]; grind)
        · refine wv_iconst (v := 1) dX1_counts_40 (by decide) ?_
          refine wv_goto (tgt := 45) dX1_counts_41 (by decide) ?_
          refine wv_zret rfl rfl dX1_counts_45 ?_
          refine ⟨?_, rfl, rfl, rfl, rfl⟩
          simp only [f4, f5, Int32.not_lt] at *
          unfold fmC
          first | (exfalso; simp_all; done) | (simp_all [Int32.not_lt, Int32.not_le]; done) | (simp_all [Int32.not_lt, Int32.not_le]; grind)
    · refine wv_iconst (v := 1) dX1_counts_20 (by decide) ?_
      refine wv_goto (tgt := 25) dX1_counts_21 (by decide) ?_
      refine wv_istore_k (i := 3) dX1_counts_25 rfl (by decide) ?_
      refine wv_aload_n dX1_counts_26 rfl ?_
      refine wv_getR fX1_19 dX1_counts_27 rfl (by first | assumption | rfl) (by first | exact hR _ _ _ rfl | assumption) ?_
      refine wv_iload_n dX1_counts_30 rfl ?_
      refine wv_ialdN dX1_counts_31 (by first | assumption | rfl) (by omega) (by decide) ?_
      refine wv_iload_n dX1_counts_32 rfl ?_
      refine wv_icmp_gt (tgt := 44) dX1_counts_33 (by decide) (fun h33 => ?_) (fun h33 => ?_)
      · refine wv_iconst (v := 0) dX1_counts_44 (by decide) ?_
        refine wv_zret rfl rfl dX1_counts_45 ?_
        refine ⟨?_, rfl, rfl, rfl, rfl⟩
        simp only [f4, f5, Int32.not_lt] at *
        unfold fmC
        first | (exfalso; simp_all; done) | (simp_all [Int32.not_lt, Int32.not_le]; done) | (simp_all [Int32.not_lt, Int32.not_le]; grind)
      · refine wv_iload_n dX1_counts_36 rfl ?_
        refine wv_if_ne (tgt := 44) dX1_counts_37 (by decide) (fun h37 => ?_) (fun h37 => ?_)
        · refine wv_iconst (v := 0) dX1_counts_44 (by decide) ?_
          refine wv_zret rfl rfl dX1_counts_45 ?_
          refine ⟨?_, rfl, rfl, rfl, rfl⟩
          simp only [f4, f5, Int32.not_lt] at *
          unfold fmC
          first | (exfalso; simp_all; done) | (simp_all [Int32.not_lt, Int32.not_le]; done) | (simp_all [Int32.not_lt, Int32.not_le]; grind)
        · refine wv_iconst (v := 1) dX1_counts_40 (by decide) ?_
          refine wv_goto (tgt := 45) dX1_counts_41 (by decide) ?_
          refine wv_zret rfl rfl dX1_counts_45 ?_
          refine ⟨?_, rfl, rfl, rfl, rfl⟩
          simp only [f4, f5, Int32.not_lt] at *
          unfold fmC
          first | (exfalso; simp_all; done) | (simp_all [Int32.not_lt, Int32.not_le]; done) | (simp_all [Int32.not_lt, Int32.not_le]; grind)

