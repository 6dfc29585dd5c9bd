/-! what a ring is, what a crowd is, what a tenth does: the words of the document -/
abbrev RG : Type := (Nat × (Nat → Bool) × (Nat → Bool) × (Nat → Bool)) × ((Nat → Int32) × (Nat → Int32) × (Nat → Int32) × Nat) × (Int32 × Int32 × Nat × Int32) × ((Nat → Int32) × Nat)
abbrev SS : Type := (Nat → Int32) × (Nat → Int32) × Int32 × Int32
def gN (g : RG) : Nat := g.1.1
def gG (g : RG) : Nat → Bool := g.1.2.1
def gD (g : RG) : Nat → Bool := g.1.2.2.1
def gF (g : RG) : Nat → Bool := g.1.2.2.2
def gUp (g : RG) : Int32 := g.2.2.1.1
def gRe (g : RG) : Int32 := g.2.2.1.2.1
def gSe (g : RG) : Nat := g.2.2.1.2.2.1
def gSh (g : RG) : Int32 := g.2.2.1.2.2.2
def gC (g : RG) : Nat → Int32 := g.2.2.2.1
def gLn (g : RG) : Nat := g.2.2.2.2
def gM (g : RG) : Nat := min (gSe g) ((gN g - 1) / 2)
def sL (f : Nat → Bool) (n s m : Nat) : Nat := cn (fun k => f ((s + n - (k + 1)) % n)) m
def sR (f : Nat → Bool) (n s m : Nat) : Nat := cn (fun k => f ((s + (k + 1)) % n)) m
def isU (v : Int32) : Bool := decide (1 ≤ v ∧ v ≤ 9)
def upn (g : RG) (S : SS) : Nat := cn (fun s => isU (S.1 s)) (gN g)
def f1 (S : SS) : Nat → Bool := fun u => decide (S.1 u = 1)
def slk (g : RG) (t : Int32) : Int32 := sl g.2.1.1 g.2.1.2.1 g.2.1.2.2.1 t g.2.1.2.2.2 0
def lk (g : RG) (S : SS) (s : Nat) : Nat → Int32 := fun k =>
  if k = 0 then nI (sL (f1 S) (gN g) s (gM g)) else if k = 1 then nI (sR (f1 S) (gN g) s (gM g)) else if k = 2 then slk g (S.2.2.1 + 1) else if k = 3 then S.2.2.2 else if k = 4 then S.2.1 s else if k = 5 then nI (upn g S) else S.2.2.1 + 1
def val (c : Nat → Int32) (len : Nat) (lk : Nat → Int32) : Int32 := (evl c lk len 0 (fun _ => 0, 0)).1 0
def wnt (g : RG) (dr : Nat → Bool) (S : SS) (s : Nat) : Bool := decide (S.1 s = 0) && !dr s && decide (val (gC g) (gLn g) (lk g S s) ≠ 0)
def beh (up rest v : Int32) : Int32 := if isU v = true then (if v < up then v + 1 else if 0 < rest then 11 else 0) else if 10 < v ∧ v < 40 then (if v < 10 + rest then v + 1 else 0) else v
def stp (g : RG) (P : Nat → Bool) (S : SS) : SS := (fun s => if s < gN g then (if P s = true then 1 else beh (gUp g) (gRe g) (S.1 s)) else S.1 s, fun s => if s < gN g ∧ P s = true then S.2.1 s + 1 else S.2.1 s, S.2.2.1 + 1, S.2.2.2)
def rok (v : Int32) : Prop := (0 ≤ v ∧ v ≤ 9) ∨ (11 ≤ v ∧ v ≤ 30)
/-- the ring in the cells from t on -/
def rgV (I : wr_TI) (L : wr_TL) (t : Nat) (g : RG) : Prop :=
  I t 5 = nI (gN g) ∧ 6 ≤ gN g ∧ gN g ≤ 40 ∧ (∀ s, lb (L t 6) s = gG g s) ∧ (∀ s, lb (L t 7) s = gD g s) ∧ (∀ s, lb (L t 8) s = gF g s) ∧ (∀ s, gN g ≤ s → gG g s = false ∧ gD g s = false ∧ gF g s = false) ∧
  I (t + 4) = g.2.1.1 ∧ I (t + 5) = g.2.1.2.1 ∧ I (t + 6) = g.2.1.2.2.1 ∧ I t 4 = nI g.2.1.2.2.2 ∧ g.2.1.2.2.2 ≤ 6 ∧
  I t 9 = gUp g ∧ (1 ≤ gUp g ∧ gUp g ≤ 9) ∧ I t 10 = gRe g ∧ (0 ≤ gRe g ∧ gRe g ≤ 20) ∧ I t 11 = nI (gSe g) ∧ (1 ≤ gSe g ∧ gSe g ≤ 9) ∧ I t 12 = gSh g ∧ (0 ≤ gSh g ∧ gSh g ≤ 9) ∧
  I (t + 2) = gC g ∧ I (t + 1) 2 = nI (gLn g) ∧ gLn g ≤ 260 ∧ wfl (gC g) (gLn g) 0 0
/-- the crowd in the cells from c on -/
def crV (I : wr_TI) (L : wr_TL) (c : Nat) (g : RG) (S : SS) : Prop :=
  (∀ s, s < 40 → (gG g s = true → S.1 s = 40 ∧ I (c + 1) s = 0) ∧ (gG g s = false → S.1 s = I (c + 1) s ∧ rok (S.1 s))) ∧ (∀ s, gN g ≤ s → s < 40 → I (c + 1) s = 0) ∧
  (∀ s, s < 40 → I (c + 2) s = S.2.1 s) ∧ I c 6 = S.2.2.1 ∧ I c 7 = S.2.2.2 ∧
  (∀ s, s < 64 → lb (L c 4) s = (decide (s < 40) && isU (I (c + 1) s))) ∧ (∀ s, s < 64 → lb (L c 5) s = (decide (s < 40) && decide (I (c + 1) s = 1)))
theorem sight_eq {n se : Nat} (hn : n ≤ 40) (h6 : 6 ≤ n) (hs : se ≤ 9) : (if (nI n - 1) / 2 < nI se then (nI n - 1) / 2 else nI se) = nI (min se ((n - 1) / 2)) := by
  have e : (nI n - 1) / 2 = nI ((n - 1) / 2) := by
    rw [show (1 : Int32) = nI 1 from rfl, pk_sub (by omega), show (2 : Int32) = nI 2 from rfl, pk_div (by omega) (by decide) (by decide)]
  rw [e]
  by_cases h : (n - 1) / 2 < se
  · rw [if_pos (nI_lt h (by omega)), Nat.min_eq_right (by omega)]
  · rw [if_neg (nI_nlt (by omega) (by omega)), Nat.min_eq_left (by omega)]
theorem seenL_eq {n s m : Nat} (hn : n ≤ 40) (h6 : 6 ≤ n) (hs : s < n) (hm : m < n) {x : Int64} (hx : ∀ i, n ≤ i → lb x i = false) : cn (lb (us (tu (nI n) (nI n - nI s) x) (nI n - nI m))) 64 = sL (lb x) n s m := by
  rw [pk_sub (by omega), pk_sub (by omega)]
  have e : ∀ i, lb (us (tu (nI n) (nI (n - s)) x) (nI (n - m))) i = (decide (n - m + i < n) && lb x ((n - m + i + n - (n - s)) % n)) := fun i => by
    unfold us
    rw [lb_ushr (n - m) (by omega), tu_lb (by omega) hn hx]
  have z : ∀ i, m ≤ i → i < 64 → (decide (n - m + i < n) && lb x ((n - m + i + n - (n - s)) % n)) = false := by
    intro i h1 h2
    have : ¬ n - m + i < n := by omega
    simp [this]
  rw [cn_congr (q := fun i => decide (n - m + i < n) && lb x ((n - m + i + n - (n - s)) % n)) (fun i _ => e i), cn_cut (m := m) (by omega) z]
  rw [cn_rev]
  unfold sL
  apply cn_congr
  intro k hk
  have h1 : n - m + (m - 1 - k) < n := by omega
  simp only [h1, decide_true, Bool.true_and]
  congr 2
  omega
theorem seenR_eq {n s m : Nat} (hn : n ≤ 40) (h6 : 6 ≤ n) (hs : s < n) (hm : m < n) {x : Int64} (hx : ∀ i, n ≤ i → lb x i = false) : cn (lb (us (tu (nI n) (nI n - nI s) x) 1 &&& ((1 <<< ((nI m).toInt64 &&& 63)) - 1))) 64 = sR (lb x) n s m := by
  rw [pk_sub (by omega)]
  have e : ∀ i, lb (us (tu (nI n) (nI (n - s)) x) 1 &&& ((1 <<< ((nI m).toInt64 &&& 63)) - 1)) i = ((decide (1 + i < n) && lb x ((1 + i + n - (n - s)) % n)) && decide (i < m)) := fun i => by
    rw [lb_and, lb_every m (by omega), show (1 : Int32) = nI 1 from rfl]
    unfold us
    rw [lb_ushr 1 (by omega), tu_lb (by omega) hn hx]
  have z : ∀ i, m ≤ i → i < 64 → ((decide (1 + i < n) && lb x ((1 + i + n - (n - s)) % n)) && decide (i < m)) = false := by
    intro i h1 h2
    have : ¬ i < m := by omega
    simp [this]
  rw [cn_congr (q := fun i => (decide (1 + i < n) && lb x ((1 + i + n - (n - s)) % n)) && decide (i < m)) (fun i _ => e i), cn_cut (m := m) (by omega) z]
  unfold sR
  apply cn_congr
  intro k hk
  have h1 : 1 + k < n := by omega
  simp only [h1, hk, decide_true, Bool.true_and, Bool.and_true]
  congr 2
  omega
set_option maxHeartbeats 4000000 in
set_option maxRecDepth 100000 in
theorem cC_look {l : Launch} {I : wr_TI} {L : wr_TL} {R : wr_TR} (c t s n se : Nat) (hc : isC R c) (hg : isG R t) (hn : I t 5 = nI n) (h6 : 6 ≤ n) (h40 : n ≤ 40) (hse : I t 11 = nI se) (hse1 : 1 ≤ se) (hse9 : se ≤ 9) (hs : s < n) (hx : ∀ i, n ≤ i → lb (L c 5) i = false) : wr_E l 2 mX0_lookAround [.ref c, .ref t, .int (nI s)] SH I L R none (wr_uI (wr_uI I (c + 4) 0 (nI (sL (lb (L c 5)) n s (min se ((n - 1) / 2))))) (c + 4) 1 (nI (sR (lb (L c 5)) n s (min se ((n - 1) / 2))))) L R := by
  obtain ⟨z0, z1, c0, c1, c2, c3, c4, r0, r1, r2, r3⟩ := hc
  obtain ⟨y0, g0, g1, g2, g3, g4, g5, g6, p0, p1, p2, p3, p4, p5⟩ := hg
  have hsi := sight_eq h40 h6 hse9
  have hm : min se ((n - 1) / 2) < n := by omega
  rw [← seenL_eq h40 h6 hs hm hx, ← seenR_eq h40 h6 hs hm hx]
  have hn2 : ∀ k v, wr_uI I (c + 4) k v t 5 = nI n := fun k v => by rw [wr_uI_ne (by omega)]; exact hn
  refine wv_pad 3 ?_
  show wr_V l 2 mX0_lookAround 0 [some (.ref c), some (.ref t), some (.int (nI s)), none, none, none] [] SH I L R 0 0 _
  refine wv_aload_n dX0_lookAround_0 rfl ?_
  refine wv_aload_n dX0_lookAround_1 rfl ?_
  refine wv_getI fX0_79 dX0_lookAround_2 rfl (by first | assumption | rfl) ?_
  refine wv_v1e oX5_sightOf kX0_82 dX0_lookAround_5 (by omega) (by first | assumption | rfl) ⟨rfl, by decide⟩ (Nat.le_of_ble_eq_true rfl) (Nat.le_of_ble_eq_true rfl) (cR_sight _ _ (by assumption)) ?_
  rw [hn, hse, hsi]
  refine wv_istore_k (i := 3) dX0_lookAround_8 rfl (by decide) ?_
  refine wv_aload_n dX0_lookAround_9 rfl ?_
  refine wv_aload_n dX0_lookAround_10 rfl ?_
  refine wv_getL fX0_32 dX0_lookAround_11 rfl (by first | assumption | rfl) ?_
  refine wv_aload_n dX0_lookAround_14 rfl ?_
  refine wv_getI fX0_62 dX0_lookAround_15 rfl (by first | assumption | rfl) ?_
  refine wv_iload_n dX0_lookAround_18 rfl ?_
  refine wv_isub dX0_lookAround_19 ?_
  rw [hn]
  refine wv_v2e oX5_turned kX0_85 dX0_lookAround_20 (by omega) (by first | assumption | rfl) ⟨rfl, by decide⟩ (Nat.le_of_ble_eq_true rfl) (Nat.le_of_ble_eq_true rfl) (cR_turned _ _ _ (by assumption)) ?_
  refine wv_lstore dX0_lookAround_23 (by decide) ?_
  refine wv_aload_n dX0_lookAround_25 rfl ?_
  refine wv_getR fX0_21 dX0_lookAround_26 rfl (by first | assumption | rfl) (by first | exact hR _ _ _ rfl | assumption) ?_
  refine wv_iconst (v := 0) dX0_lookAround_29 (by decide) ?_
  refine wv_lload dX0_lookAround_30 rfl ?_
  refine wv_aload_n dX0_lookAround_32 rfl ?_
  refine wv_getI fX0_62 dX0_lookAround_33 rfl (by first | assumption | rfl) ?_
  refine wv_iload_n dX0_lookAround_36 rfl ?_
  refine wv_isub dX0_lookAround_37 ?_
  rw [hn]
  refine wv_lushr dX0_lookAround_38 ?_
  refine wv_s1e oJ13_bitCount_95d88 kX0_56 dX0_lookAround_39 (by omega) (Nat.le_of_ble_eq_true rfl) (Nat.le_of_ble_eq_true rfl) (cJ_bits _) ?_
  refine wv_iastK (k := 0) dX0_lookAround_42 (by first | assumption | rfl) (by decide) (by unfold vp_in; decide) ?_
  refine wv_aload_n dX0_lookAround_43 rfl ?_
  refine wv_getR fX0_21 dX0_lookAround_44 rfl (by first | assumption | rfl) (by first | exact hR _ _ _ rfl | assumption) ?_
  refine wv_iconst (v := 1) dX0_lookAround_47 (by decide) ?_
  refine wv_lload dX0_lookAround_48 rfl ?_
  refine wv_iconst (v := 1) dX0_lookAround_50 (by decide) ?_
  refine wv_lushr dX0_lookAround_51 ?_
  refine wv_lconst (v := 1) dX0_lookAround_52 (by decide) ?_
  refine wv_iload_n dX0_lookAround_53 rfl ?_
  refine wv_lshl dX0_lookAround_54 ?_
  refine wv_lconst (v := 1) dX0_lookAround_55 (by decide) ?_
  refine wv_lsub dX0_lookAround_56 ?_
  refine wv_land dX0_lookAround_57 ?_
  refine wv_s1e oJ13_bitCount_95d88 kX0_56 dX0_lookAround_58 (by omega) (Nat.le_of_ble_eq_true rfl) (Nat.le_of_ble_eq_true rfl) (cJ_bits _) ?_
  refine wv_iastK (k := 1) dX0_lookAround_61 (by first | assumption | rfl) (by decide) (by unfold vp_in; decide) ?_
  refine wv_ret (x := ()) rfl dX0_lookAround_62 ?_
  exact ⟨rfl, rfl, rfl, rfl, rfl⟩

