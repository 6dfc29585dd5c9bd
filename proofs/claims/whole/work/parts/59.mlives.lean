/-! the model: who starts, how long it lives; lives, fewest, best, jumps, meet; waves, wide -/
theorem sfB_succ {n x : Nat} (hx : x < n) (j b : Nat) : sfB n x (j + 1) b = (sfB n x j b || decide (b = (x + j) % n)) := by
  unfold sfB
  by_cases hb : b < n
  · have hr := Nat.mod_lt (b + n - x) (by omega : 0 < n)
    by_cases hj : j < n
    · have key : (b + n - x) % n = j ↔ b = (x + j) % n := by
        constructor
        · intro h
          rw [← h, Nat.add_mod, Nat.mod_mod, ← Nat.add_mod, show x + (b + n - x) = b + n by omega, Nat.add_mod_right, Nat.mod_eq_of_lt hb]
        · intro h
          rw [h]
          by_cases hc : x + j < n
          · rw [Nat.mod_eq_of_lt hc, show x + j + n - x = j + n by omega, Nat.add_mod_right, Nat.mod_eq_of_lt hj]
          · rw [show (x + j) % n = x + j - n by rw [Nat.mod_eq_sub_mod (by omega), Nat.mod_eq_of_lt (by omega)], show x + j - n + n - x = j by omega, Nat.mod_eq_of_lt hj]
      simp only [hb, decide_true, Bool.true_and]
      by_cases h1 : (b + n - x) % n < j
      · have h2 : (b + n - x) % n < j + 1 := by omega
        simp [h1, h2]
      · by_cases h2 : (b + n - x) % n = j
        · have h3 := key.mp h2
          have h4 : (b + n - x) % n < j + 1 := by omega
          simp only [h1, h4, decide_true, decide_false, Bool.false_or]
          simp [← h3]
        · have h3 : ¬ b = (x + j) % n := fun q => h2 (key.mpr q)
          have h4 : ¬ (b + n - x) % n < j + 1 := by omega
          simp [h1, h3, h4]
    · have h1 : (b + n - x) % n < j := by omega
      have h2 : (b + n - x) % n < j + 1 := by omega
      simp [hb, h1, h2]
  · have h3 : ¬ b = (x + j) % n := fun q => hb (by rw [q]; exact Nat.mod_lt _ (by omega))
    simp [hb, h3]
theorem sfB_0 (n x : Nat) (b : Nat) : sfB n x 0 b = false := by simp [sfB]
def tw1 (W : Nat → Bool) (S : SS) (s : Nat) : Int32 := if tryP W S s = true then 1 else S.1 s
def tw2 (W : Nat → Bool) (S : SS) (s : Nat) : Int32 := if tryP W S s = true then S.2.1 s + 1 else S.2.1 s
theorem tw_c {W V : Nat → Bool} {S : SS} {s : Nat} (h : W s = V s) : tw1 W S s = tw1 V S s ∧ tw2 W S s = tw2 V S s := by
  unfold tw1 tw2 tryP
  rw [h]
  exact ⟨rfl, rfl⟩
set_option maxHeartbeats 4000000 in
set_option maxRecDepth 100000 in
theorem x_start {l : Launch} {I : wr_TI} {L : wr_TL} {R : wr_TR} (hR : wr_RC R) (g : RG) (S : SS) (ok : gOK g) (hn : I 55 28 = nI (gN g)) (W : Nat → Bool) (hI : (∀ s, s < 40 → I 75 s = tw1 W S s ∧ I 76 s = tw2 W S s)) (a m : Nat) (ha : a < gN g) (hm : m ≤ gN g) : wr_P l 1 mX8_start [.ref 55, .int (nI a), .int (nI m)] SH I L R (fun v s' I' L' R' => v = none ∧ s' = SH ∧ L' = L ∧ R' = R ∧ (∀ s, s < 40 → I' 75 s = tw1 (fun s => W s || sfB (gN g) a m s) S s ∧ I' 76 s = tw2 (fun s => W s || sfB (gN g) a m s) S s) ∧ ∀ b, b ≠ 75 → b ≠ 76 → I' b = I b) := by
  obtain ⟨k6, k40, -⟩ := id ok
  have lp : ∀ (k i : Nat) (J : wr_TI), i + k = m → (∀ b, b ≠ 75 → b ≠ 76 → J b = I b) → (∀ s, s < 40 → J 75 s = tw1 (fun s => W s || sfB (gN g) a i s) S s ∧ J 76 s = tw2 (fun s => W s || sfB (gN g) a i s) S s) → wr_V l 1 mX8_start 5 [some (.ref 55), some (.int (nI a)), some (.int (nI m)), none, some (.int (nI i))] [] SH J L R 0 0 (fun v s' I' L' R' => v = none ∧ s' = SH ∧ L' = L ∧ R' = R ∧ (∀ s, s < 40 → I' 75 s = tw1 (fun s => W s || sfB (gN g) a m s) S s ∧ I' 76 s = tw2 (fun s => W s || sfB (gN g) a m s) S s) ∧ ∀ b, b ≠ 75 → b ≠ 76 → I' b = I b) := by
    intro k
    induction k with
    | zero =>
      intro i J hi hJ h1
      obtain rfl : i = m := by omega
      refine wv_iload dX8_start_5 rfl ?_
      refine wv_iload_n dX8_start_7 rfl ?_
      refine wv_icmp_ge (tgt := 30) dX8_start_8 (by decide) (fun h8 => ?_) (fun h8 => absurd (Int32.le_refl _) h8)
      refine wv_ret (x := ()) rfl dX8_start_30 ?_
      exact ⟨rfl, rfl, rfl, rfl, h1, hJ⟩
    | succ k ih =>
      intro i J hi hJ h1
      have hb0 := Nat.mod_lt (a + i) (by omega : 0 < gN g)
      obtain ⟨e1, e2⟩ := h1 ((a + i) % gN g) (by omega)
      refine wv_iload dX8_start_5 rfl ?_
      refine wv_iload_n dX8_start_7 rfl ?_
      refine wv_icmp_ge (tgt := 30) dX8_start_8 (by decide) (fun h8 => absurd h8 (nI_ge (by omega) (by omega))) (fun h8 => ?_)
      refine wv_aload_n dX8_start_11 rfl ?_
      refine wv_aload_n dX8_start_12 rfl ?_
      refine wv_iload_n dX8_start_13 rfl ?_
      refine wv_iload dX8_start_14 rfl ?_
      refine wv_iadd dX8_start_16 ?_
      rw [nI_add]
      refine wv_v1e oX8_wrap kX8_396 dX8_start_17 (by omega) (by first | assumption | rfl) ⟨rfl, by decide⟩ (Nat.le_of_ble_eq_true rfl) (Nat.le_of_ble_eq_true rfl) (x_wrap (gN g) (a + i) (by rw [hJ 55 (by omega) (by omega)]; exact hn) (by omega) k40 (by omega)) ?_
      refine wv_v1e oX8_tries kX8_427 dX8_start_20 (by omega) (by first | assumption | rfl) ⟨rfl, by decide⟩ (Nat.le_of_ble_eq_true rfl) (Nat.le_of_ble_eq_true rfl) (x_tries hR ((a + i) % gN g) (by omega)) ?_
      refine wv_istore_k (i := 3) dX8_start_23 rfl (by decide) ?_
      refine wv_iinc (v := nI (i + 1)) dX8_start_24 rfl (nI_1 (i)) (by decide) ?_
      refine wv_goto (tgt := 5) dX8_start_27 (by decide) ?_
      refine wv_le (by simp [wr_leq, wr_s1, wr_s2, wr_wide]) (ih (i + 1) _ (by omega) (fun b b1 b2 => ?_) (fun s hs => ?_))
      · unfold trI
        split
        · rw [wr_uI_ne b2, wr_uI_ne b1]; exact hJ b b1 b2
        · exact hJ b b1 b2
      · by_cases hsb : s = (a + i) % gN g
        · have hW : ((fun s => W s || sfB (gN g) a (i + 1) s) s) = true := by simp only []; rw [sfB_succ ha, hsb]; simp
          unfold tw1 tw2 tryP
          rw [hW]
          rw [← hsb] at e1 e2 ⊢
          unfold trI
          unfold tw1 tryP at e1
          unfold tw2 tryP at e2
          by_cases hS0 : S.1 s = 0
          · by_cases hw : (W s || sfB (gN g) a i s) = true
            · simp [hw, hS0] at e1 e2
              simp [e1, e2, hS0]
            · simp [hw, hS0] at e1 e2
              simp [e1, e2, hS0, wr_uI]
          · simp [hS0] at e1 e2
            simp [e1, e2, hS0]
        · have hW : ((fun s => W s || sfB (gN g) a (i + 1) s) s) = ((fun s => W s || sfB (gN g) a i s) s) := by simp only []; rw [sfB_succ ha]; simp [hsb]
          obtain ⟨q1, q2⟩ := tw_c (S := S) (W := fun s => W s || sfB (gN g) a (i + 1) s) (V := fun s => W s || sfB (gN g) a i s) hW
          obtain ⟨r1, r2⟩ := h1 s hs
          rw [q1, q2]
          unfold trI
          split
          · simp only [wr_uI, hsb, and_false, if_false]
            exact ⟨r1, r2⟩
          · exact ⟨r1, r2⟩
  refine wv_pad 2 ?_
  show wr_V l 1 mX8_start 0 [some (.ref 55), some (.int (nI a)), some (.int (nI m)), none, none] [] SH I L R 0 0 _
  refine wv_iconst (v := 0) dX8_start_0 (by decide) ?_
  refine wv_istore_k (i := 3) dX8_start_1 rfl (by decide) ?_
  refine wv_iconst (v := nI 0) dX8_start_2 rfl ?_
  refine wv_istore dX8_start_3 (by decide) ?_
  exact wv_le (by simp [wr_leq, wr_s1, wr_s2, wr_wide]) (lp m 0 I (by omega) (fun _ _ _ => rfl) (fun s hs => by
    obtain ⟨q1, q2⟩ := tw_c (S := S) (W := fun s => W s || sfB (gN g) a 0 s) (V := W) (s := s) (by simp [sfB_0])
    rw [q1, q2]; exact hI s hs))

set_option maxHeartbeats 4000000 in
set_option maxRecDepth 100000 in
theorem x_life {l : Launch} {I : wr_TI} {L : wr_TL} {R : wr_TR} (hR : wr_RC R) (g : RG) (ok : gOK g) (hg : mgV I g) (dr : Nat → Bool) (hdr : ∀ s, s < gN g → dr s = (decide (I 60 s ≠ 0) || decide (I 82 s ≠ 0))) (S : SS) (hS : mcV I S) : wr_P l 5 mX8_life [.ref 55] SH I L R (fun v s' I' L' R' => v = some (.int (nI (lv g dr 200 S))) ∧ s' = SH ∧ L' = L ∧ R' = R ∧ I' 55 59 = I 55 59 ∧ frS I I') := by
  obtain ⟨k6, k40, -⟩ := id ok
  have lp : ∀ (k i : Nat) (T : SS) (J : wr_TI), i + k = 200 → mcV J T → J 55 59 = I 55 59 → frS I J → wr_V l 5 mX8_life 4 [some (.ref 55), some (.int (nI i)), none] [] SH J L R 0 0 (fun v s' I' L' R' => v = some (.int (nI (i + lv g dr k T))) ∧ s' = SH ∧ L' = L ∧ R' = R ∧ I' 55 59 = I 55 59 ∧ frS I I') := by
    intro k
    induction k with
    | zero =>
      intro i T J hi hT hw hf
      refine wv_iload_n dX8_life_4 rfl ?_
      refine wv_sipush (v := 200) dX8_life_5 (by decide) ?_
      refine wv_icmp_ge (tgt := 30) dX8_life_8 (by decide) (fun h8 => ?_) (fun h8 => absurd (nI_le (a := 200) (by omega) (by omega)) h8)
      refine wv_iload_n dX8_life_30 rfl ?_
      refine wv_iret rfl dX8_life_31 ?_
      exact ⟨rfl, rfl, rfl, rfl, hw, hf⟩
    | succ k ih =>
      intro i T J hi hT hw hf
      have hup : upn g T < 2 ^ 31 := by have := cn_le (fun s => isU (T.1 s)) (gN g); unfold upn; omega
      refine wv_iload_n dX8_life_4 rfl ?_
      refine wv_sipush (v := 200) dX8_life_5 (by decide) ?_
      refine wv_icmp_ge (tgt := 30) dX8_life_8 (by decide) (fun h8 => absurd h8 (nI_ge (b := 200) (by omega) (by omega))) (fun h8 => ?_)
      refine wv_aload_n dX8_life_11 rfl ?_
      refine wv_v0e oX8_ups kX8_414 dX8_life_12 (by omega) (by first | assumption | rfl) ⟨rfl, by decide⟩ (Nat.le_of_ble_eq_true rfl) (Nat.le_of_ble_eq_true rfl) (x_ups hR (gN g) (frS_g hf hg).1 k40) ?_
      refine wv_if_le (tgt := 30) dX8_life_15 (by decide) (fun h15 => ?_) (fun h15 => ?_)
      · rw [ups_of k40 hT] at h15
        have hu : upn g T = 0 := by
          have := (nI_leI (b := 0) hup (by omega)).mp h15
          omega
        refine wv_iload_n dX8_life_30 rfl ?_
        refine wv_iret rfl dX8_life_31 ?_
        refine ⟨?_, rfl, rfl, rfl, hw, hf⟩
        simp [lv, hu]
      · rw [ups_of k40 hT] at h15
        have hu : ¬ upn g T = 0 := fun q => h15 (by rw [q]; exact Int32.le_refl _)
        refine wv_aload_n dX8_life_18 rfl ?_
        refine wv_iconst (v := 0) dX8_life_19 (by decide) ?_
        refine wv_v1 oX8_step kX8_431 dX8_life_20 (by omega) (by first | assumption | rfl) ⟨rfl, by decide⟩ (Nat.le_of_ble_eq_true rfl) (Nat.le_of_ble_eq_true rfl) (x_stepD hR g T ok (frS_g hf hg) hT dr (by rw [hf.1 60 (by omega) (by omega), hf.1 82 (by omega) (by omega)]; exact hdr)) (fun v9 s9 J9 L9 R9 h9 => ?_)
        obtain ⟨⟨x9, rfl⟩, rfl, rfl, rfl, hT9, hw9, hf9⟩ := h9
        refine wv_istore_k (i := 2) dX8_life_23 rfl (by decide) ?_
        refine wv_iinc (v := nI (i + 1)) dX8_life_24 rfl (nI_1 (i)) (by decide) ?_
        refine wv_goto (tgt := 4) dX8_life_27 (by decide) ?_
        refine wr_V.imp (wv_le (by simp [wr_leq, wr_s1, wr_s2, wr_wide]) (ih (i + 1) _ J9 (by omega) hT9 (hw9.trans hw) (frS_tr hf hf9))) (fun v s' I' L' R' h => ⟨h.1.trans ?_, h.2⟩)
        have e : lv g dr (k + 1) T = lv g dr k (stp g (wnt g dr T) T) + 1 := by
          rw [lv, if_neg hu]
        rw [e, show i + 1 + lv g dr k (stp g (wnt g dr T) T) = i + (lv g dr k (stp g (wnt g dr T) T) + 1) by omega]
  refine wv_pad 2 ?_
  show wr_V l 5 mX8_life 0 [some (.ref 55), none, none] [] SH I L R 0 0 _
  refine wv_iconst (v := nI 0) dX8_life_0 rfl ?_
  refine wv_istore_k (i := 1) dX8_life_1 rfl (by decide) ?_
  refine wv_iconst (v := 0) dX8_life_2 (by decide) ?_
  refine wv_istore_k (i := 2) dX8_life_3 rfl (by decide) ?_
  refine wr_V.imp (wv_le (by simp [wr_leq, wr_s1, wr_s2, wr_wide]) (lp 200 0 S I (by omega) hS rfl frS_rf)) (fun v s' I' L' R' h => ⟨h.1.trans ?_, h.2⟩)
  rw [Nat.zero_add]

theorem mcV_start {J : wr_TI} {g : RG} {W V : Nat → Bool} (h : ∀ s, s < 40 → J 75 s = tw1 W (S0 g) s ∧ J 76 s = tw2 W (S0 g) s) (hWV : ∀ s, W s = V s) (h1 : J 55 57 = 0) (h2 : J 55 58 = 1) : mcV J (tryS V (S0 g)) := by
  obtain rfl : W = V := funext hWV
  exact ⟨fun s hs => (h s hs).1, fun s hs => (h s hs).2, h1, h2⟩
theorem tw_none (S : SS) (s : Nat) : tw1 (fun _ => false) S s = S.1 s ∧ tw2 (fun _ => false) S s = S.2.1 s := by simp [tw1, tw2, tryP]
theorem old_of {J8 J6 J5 J : wr_TI} {F : FS} (hO : mOld J8 F) (f78 : J6 78 = J8 78) (f79 : J6 79 = J8 79) (f81 : J6 81 = J8 81) (f55 : ∀ k, k ≠ 57 → k ≠ 58 → J6 55 k = J8 55 k) (hf5 : ∀ b, b ≠ 75 → b ≠ 76 → J5 b = J6 b) (h1 : ∀ b, b ≠ 55 → b ≠ 82 → J b = J5 b) (h2 : ∀ k, k ≠ 58 → J 55 k = J5 55 k) : mOld J F := by
  unfold mOld at hO ⊢
  rw [h1 78 (by omega) (by omega), h1 79 (by omega) (by omega), h1 81 (by omega) (by omega), h2 60 (by omega), h2 61 (by omega), h2 59 (by omega), hf5 78 (by omega) (by omega), hf5 79 (by omega) (by omega), hf5 81 (by omega) (by omega), hf5 55 (by omega) (by omega), f78, f79, f81, f55 60 (by omega) (by omega), f55 61 (by omega) (by omega), f55 59 (by omega) (by omega)]
  exact hO
set_option maxHeartbeats 4000000 in
set_option maxRecDepth 100000 in
theorem x_livesBy {l : Launch} {I : wr_TI} {L : wr_TL} {R : wr_TR} (hR : wr_RC R) (g : RG) (F : FS) (ok : gOK g) (hg : mgV I g) (hF : mcF I F) (hz : mZ I) (a m y mo : Nat) (ha : a < gN g) (hm : m ≤ gN g) (hy : y < gN g) (hmo : mo ≤ 9) : wr_P l 6 mX8_livesBy [.ref 55, .int (nI a), .int (nI m), .int (nI y), .int (nI mo)] SH I L R (fun v s' I' L' R' => v = some (.int (nI (life g (sfB (gN g) a m) (fun s => gD g s || sfB (gN g) y mo s)))) ∧ s' = SH ∧ L' = L ∧ R' = R ∧ mcF I' F ∧ mZ I' ∧ frB I I') := by
  obtain ⟨k6, k40, -⟩ := id ok
  have hn : I 55 28 = nI (gN g) := hg.1
  refine wv_pad 1 ?_
  show wr_V l 6 mX8_livesBy 0 [some (.ref 55), some (.int (nI a)), some (.int (nI m)), some (.int (nI y)), some (.int (nI mo)), none] [] SH I L R 0 0 _
  refine wv_aload_n dX8_livesBy_0 rfl ?_
  refine wv_v0 oX8_put kX8_444 dX8_livesBy_1 (by omega) (by first | assumption | rfl) ⟨rfl, by decide⟩ (Nat.le_of_ble_eq_true rfl) (Nat.le_of_ble_eq_true rfl) (x_put hR) (fun v8 s8 J8 L8 R8 h8 => ?_)
  obtain ⟨rfl, rfl, rfl, rfl, hO, hf8, p75, p76, p80, p82, p55⟩ := h8
  refine wv_aload_n dX8_livesBy_4 rfl ?_
  refine wv_v0 oX8_freshen kX8_157 dX8_livesBy_5 (by omega) (by first | assumption | rfl) ⟨rfl, by decide⟩ (Nat.le_of_ble_eq_true rfl) (Nat.le_of_ble_eq_true rfl) (x_freshen hR g (frB_g hf8 hg).2.1) (fun v6 s6 J6 L6 R6 h6 => ?_)
  obtain ⟨rfl, rfl, rfl, rfl, hS6, hw6, hf6, f78, f79, f81, f82, f55⟩ := h6
  refine wv_aload_n dX8_livesBy_8 rfl ?_
  refine wv_iload_n dX8_livesBy_9 rfl ?_
  refine wv_iload_n dX8_livesBy_10 rfl ?_
  refine wv_v2 oX8_start kX8_450 dX8_livesBy_11 (by omega) (by first | assumption | rfl) ⟨rfl, by decide⟩ (Nat.le_of_ble_eq_true rfl) (Nat.le_of_ble_eq_true rfl) (x_start hR g (S0 g) ok (by rw [f55 _ (by omega) (by omega), p55 _ (by omega) (by omega)]; exact hn) (fun _ => false) (fun s hs => by rw [(tw_none _ s).1, (tw_none _ s).2]; exact ⟨hS6.1 s hs, hS6.2.1 s hs⟩) a m ha hm) (fun v5 s5 J5 L5 R5 h5 => ?_)
  obtain ⟨rfl, rfl, rfl, rfl, hS5, hf5⟩ := h5
  refine wv_aload_n dX8_livesBy_14 rfl ?_
  refine wv_iconst (v := 1) dX8_livesBy_15 (by decide) ?_
  refine wv_putI fX8_384 dX8_livesBy_16 rfl rfl rfl rfl (by first | assumption | rfl) ?_
  refine wv_iconst (v := nI 0) dX8_livesBy_19 rfl ?_
  refine wv_istore dX8_livesBy_20 (by decide) ?_
  have lp : ∀ (Lx : wr_TL) (Rx : wr_TR), wr_RC Rx → ∀ (k i : Nat) (J : wr_TI), i + k = mo → (∀ b, b ≠ 55 → b ≠ 82 → J b = J5 b) → (∀ k, k ≠ 58 → J 55 k = J5 55 k) → J 55 58 = 1 → (∀ s, s < 40 → J 82 s = bI (sfB (gN g) y i s)) → wr_V l 6 mX8_livesBy 22 [some (.ref 55), some (.int (nI a)), some (.int (nI m)), some (.int (nI y)), some (.int (nI mo)), some (.int (nI i))] [] SH J Lx Rx 0 0 (fun v s' I' L' R' => v = some (.int (nI (life g (sfB (gN g) a m) (fun s => gD g s || sfB (gN g) y mo s)))) ∧ s' = SH ∧ L' = Lx ∧ R' = Rx ∧ mcF I' F ∧ mZ I' ∧ frB I I') := by
    intro Lx Rx hR k
    induction k with
    | zero =>
      intro i J hi hJ1 hJ2 hJ3 hJ4
      obtain rfl : i = mo := by omega
      have hfJ : frB I J := ⟨fun b b1 b2 => by rw [hJ1 b b1 (by omega), hf5 b (by omega) (by omega), hf6.1 b b1 (by omega), hf8.1 b b1 (by omega)], fun k hk => by rw [hJ2 k (by omega), hf5 55 (by omega) (by omega), f55 k (by omega) (by omega), hf8.2 k hk]⟩
      have hgJ := frB_g hfJ hg
      have hSJ : mcV J (tryS (sfB (gN g) a m) (S0 g)) := mcV_start (W := fun s => false || sfB (gN g) a m s) (fun s hs => by rw [hJ1 75 (by omega) (by omega), hJ1 76 (by omega) (by omega)]; exact hS5 s hs) (fun s => by simp) (by rw [hJ2 _ (by omega), hf5 55 (by omega) (by omega)]; exact hS6.2.2.1) hJ3
      have hOJ : mOld J F := old_of (hO F hF) f78 f79 f81 f55 hf5 hJ1 hJ2
      have hdr : ∀ s, s < gN g → (gD g s || sfB (gN g) y i s) = (decide (J 60 s ≠ 0) || decide (J 82 s ≠ 0)) := fun s hs => by
        rw [hgJ.2.2.1 s (by omega), hJ4 s (by omega)]
        cases gD g s <;> cases sfB (gN g) y i s <;> simp [bI]
      refine wv_iload dX8_livesBy_22 rfl ?_
      refine wv_iload dX8_livesBy_24 rfl ?_
      refine wv_icmp_ge (tgt := 49) dX8_livesBy_26 (by decide) (fun h26 => ?_) (fun h26 => absurd (Int32.le_refl _) h26)
      refine wv_aload_n dX8_livesBy_49 rfl ?_
      refine wv_v0 oX8_life kX8_453 dX8_livesBy_50 (by omega) (by first | assumption | rfl) ⟨rfl, by decide⟩ (Nat.le_of_ble_eq_true rfl) (Nat.le_of_ble_eq_true rfl) (x_life hR g ok hgJ (fun s => gD g s || sfB (gN g) y i s) hdr _ hSJ) (fun v4 s4 J4 L4 R4 h4 => ?_)
      obtain ⟨rfl, rfl, rfl, rfl, hw4, hf4⟩ := h4
      refine wv_istore dX8_livesBy_53 (by decide) ?_
      refine wv_aload_n dX8_livesBy_55 rfl ?_
      refine wv_v0 oX8_bring kX8_447 dX8_livesBy_56 (by omega) (by first | assumption | rfl) ⟨rfl, by decide⟩ (Nat.le_of_ble_eq_true rfl) (Nat.le_of_ble_eq_true rfl) (x_bring hR) (fun v7 s7 J7 L7 R7 h7 => ?_)
      obtain ⟨rfl, rfl, rfl, rfl, hB, hf7, hz7, b55⟩ := h7
      refine wv_iload dX8_livesBy_59 rfl ?_
      refine wv_iret rfl dX8_livesBy_61 ?_
      exact ⟨rfl, rfl, rfl, rfl, hB F (mOld_S hOJ hf4 hw4), hz7, frB_tr (frB_tr hfJ (frB_S hf4)) hf7⟩
    | succ k ih =>
      intro i J hi hJ1 hJ2 hJ3 hJ4
      have hb0 := Nat.mod_lt (y + i) (by omega : 0 < gN g)
      have hnJ : J 55 28 = nI (gN g) := by rw [hJ2 _ (by omega), hf5 55 (by omega) (by omega), f55 _ (by omega) (by omega), p55 _ (by omega) (by omega)]; exact hn
      refine wv_iload dX8_livesBy_22 rfl ?_
      refine wv_iload dX8_livesBy_24 rfl ?_
      refine wv_icmp_ge (tgt := 49) dX8_livesBy_26 (by decide) (fun h26 => absurd h26 (nI_ge (by omega) (by omega))) (fun h26 => ?_)
      refine wv_aload_n dX8_livesBy_29 rfl ?_
      refine wv_getR fX8_93 dX8_livesBy_30 rfl (by first | assumption | rfl) (by first | exact hR _ _ _ rfl | assumption) ?_
      refine wv_aload_n dX8_livesBy_33 rfl ?_
      refine wv_iload_n dX8_livesBy_34 rfl ?_
      refine wv_iload dX8_livesBy_35 rfl ?_
      refine wv_iadd dX8_livesBy_37 ?_
      rw [nI_add]
      refine wv_v1e oX8_wrap kX8_396 dX8_livesBy_38 (by omega) (by first | assumption | rfl) ⟨rfl, by decide⟩ (Nat.le_of_ble_eq_true rfl) (Nat.le_of_ble_eq_true rfl) (x_wrap (gN g) (y + i) hnJ (by omega) k40 (by omega)) ?_
      refine wv_iconst (v := 1) dX8_livesBy_41 (by decide) ?_
      refine wv_zastN dX8_livesBy_42 (by first | assumption | rfl) (by omega) (by decide) ?_
      refine wv_iinc (v := nI (i + 1)) dX8_livesBy_43 rfl (nI_1 (i)) (by decide) ?_
      refine wv_goto (tgt := 22) dX8_livesBy_46 (by decide) ?_
      refine wv_le (by simp [wr_leq, wr_s1, wr_s2, wr_wide]) (ih (i + 1) _ (by omega) (fun b b1 b2 => ?_) (fun k hk => ?_) ?_ (fun s hs => ?_))
      · rw [wr_uI_ne b2]; exact hJ1 b b1 b2
      · rw [wr_uI_ne (by omega)]; exact hJ2 k hk
      · rw [wr_uI_ne (by omega)]; exact hJ3
      · rw [sfB_succ hy]
        by_cases hsb : s = (y + i) % gN g
        · subst hsb; have e1 : vp_nar .boolean 1 = 1 := rfl
          simp [wr_uI, bI, e1]
        · simp [wr_uI, hsb, hJ4 s hs]
  exact wv_le (by simp [wr_leq, wr_s1, wr_s2, wr_wide]) (lp _ _ hR mo 0 _ (by omega) (fun b b1 b2 => wr_uI_ne b1) (fun k hk => by simp [wr_uI, hk]) (by simp [wr_uI]) (fun s hs => by rw [wr_uI_ne (by omega), hf5 82 (by omega) (by omega), f82, p82, hz s hs]; simp [bI, sfB_0]))

theorem life_0 (g : RG) (W : Nat → Bool) (y : Nat) : life g W (fun s => gD g s || sfB (gN g) y 0 s) = life g W (gD g) := by
  congr 1
  funext s
  simp [sfB_0]
set_option maxHeartbeats 4000000 in
set_option maxRecDepth 100000 in
theorem xW_lives {l : Launch} {I : wr_TI} {L : wr_TL} {R : wr_TR} (hR : wr_RC R) (g : RG) (F : FS) (ok : gOK g) (hg : mgV I g) (hF : mcF I F) (hz : mZ I) (x k : Int32) : wr_P l 7 mX8_lives [.ref 55, .int x, .int k] SH I L R (fun v s' I' L' R' => v = some (.int (aLives g x k)) ∧ s' = SH ∧ L' = L ∧ R' = R ∧ mcF I' F ∧ mZ I' ∧ frB I I') := by
  obtain ⟨k6, k40, -⟩ := id ok
  have hn : I 55 28 = nI (gN g) := hg.1
  refine wv_pad 0 ?_
  show wr_V l 7 mX8_lives 0 [some (.ref 55), some (.int x), some (.int k)] [] SH I L R 0 0 _
  refine wv_aload_n dX8_lives_0 rfl ?_
  refine wv_iload_n dX8_lives_1 rfl ?_
  refine wv_v1e oX8_isSeat kX8_435 dX8_lives_2 (by omega) (by first | assumption | rfl) ⟨rfl, by decide⟩ (Nat.le_of_ble_eq_true rfl) (Nat.le_of_ble_eq_true rfl) (x_isSeat _) ?_
  refine wv_if_eq (tgt := 27) dX8_lives_5 (by decide) (fun h5 => ?_) (fun h5 => ?_)
  · rw [hn, if10] at h5
    have hno : ¬ (oS g x ∧ oM g k) := fun q => h5 q.1
    refine wv_iconst (v := (-1)) dX8_lives_27 (by decide) ?_
    refine wv_iret rfl dX8_lives_28 ?_
    first
      | (have _ := hf9
         refine ⟨?_, rfl, rfl, rfl, hF9, hz9, hf9⟩
         unfold aLives
         rw [if_pos ⟨hx, hk⟩, tN_nI (by omega), tN_nI (by omega), life_0])
      | (refine ⟨?_, rfl, rfl, rfl, hF, hz, frB_rf⟩
         unfold aLives
         rw [if_neg hno])
  · rw [hn, if10] at h5
    have hx : oS g x := Decidable.not_not.mp h5
    refine wv_aload_n dX8_lives_8 rfl ?_
    refine wv_iload_n dX8_lives_9 rfl ?_
    refine wv_v1e oX8_isMany kX8_456 dX8_lives_10 (by omega) (by first | assumption | rfl) ⟨rfl, by decide⟩ (Nat.le_of_ble_eq_true rfl) (Nat.le_of_ble_eq_true rfl) (x_isMany _) ?_
    refine wv_if_eq (tgt := 27) dX8_lives_13 (by decide) (fun h13 => ?_) (fun h13 => ?_)
    · rw [hn, if10] at h13
      have hno : ¬ (oS g x ∧ oM g k) := fun q => h13 q.2
      refine wv_iconst (v := (-1)) dX8_lives_27 (by decide) ?_
      refine wv_iret rfl dX8_lives_28 ?_
      first
        | (have _ := hf9
           refine ⟨?_, rfl, rfl, rfl, hF9, hz9, hf9⟩
           unfold aLives
           rw [if_pos ⟨hx, hk⟩, tN_nI (by omega), tN_nI (by omega), life_0])
        | (refine ⟨?_, rfl, rfl, rfl, hF, hz, frB_rf⟩
           unfold aLives
           rw [if_neg hno])
    · rw [hn, if10] at h13
      have hk : oM g k := Decidable.not_not.mp h13
      obtain ⟨a, ha, rfl⟩ := ix_of hx (by omega)
      obtain ⟨m, hm1, hm2, hm3, rfl⟩ := mk_of hk k40
      refine wv_aload_n dX8_lives_16 rfl ?_
      refine wv_iload_n dX8_lives_17 rfl ?_
      refine wv_iload_n dX8_lives_18 rfl ?_
      refine wv_iconst (v := nI 0) dX8_lives_19 rfl ?_
      refine wv_iconst (v := nI 0) dX8_lives_20 rfl ?_
      refine wv_v4 oX8_livesBy kX8_459 dX8_lives_21 (by omega) (by first | assumption | rfl) ⟨rfl, by decide⟩ (Nat.le_of_ble_eq_true rfl) (Nat.le_of_ble_eq_true rfl) (x_livesBy hR g F ok hg hF hz a m 0 0 (by omega) (by omega) (by omega) (by omega)) (fun v9 s9 J9 L9 R9 h9 => ?_)
      obtain ⟨rfl, rfl, rfl, rfl, hF9, hz9, hf9⟩ := h9
      refine wv_goto (tgt := 28) dX8_lives_24 (by decide) ?_
      refine wv_iret rfl dX8_lives_28 ?_
      first
        | (have _ := hf9
           refine ⟨?_, rfl, rfl, rfl, hF9, hz9, hf9⟩
           unfold aLives
           rw [if_pos ⟨hx, hk⟩, tN_nI (by omega), tN_nI (by omega), life_0])
        | (refine ⟨?_, rfl, rfl, rfl, hF, hz, frB_rf⟩
           unfold aLives
           rw [if_neg hno])

set_option maxHeartbeats 4000000 in
set_option maxRecDepth 100000 in
theorem xW_fewest {l : Launch} {I : wr_TI} {L : wr_TL} {R : wr_TR} (hR : wr_RC R) (g : RG) (F : FS) (ok : gOK g) (hg : mgV I g) (hF : mcF I F) (hz : mZ I) (x : Int32) : wr_P l 7 mX8_fewest [.ref 55, .int x] SH I L R (fun v s' I' L' R' => v = some (.int (aFewest g x)) ∧ s' = SH ∧ L' = L ∧ R' = R ∧ mcF I' F ∧ mZ I' ∧ frB I I') := by
  obtain ⟨k6, k40, -⟩ := id ok
  have hn : I 55 28 = nI (gN g) := hg.1
  have lp : ∀ (a : Nat), a < gN g → ∀ (k i : Nat) (J : wr_TI), i + k = 13 → 1 ≤ i → mcF J F → mZ J → frB I J → wr_V l 7 mX8_fewest 12 [some (.ref 55), some (.int (nI a)), some (.int (nI i))] [] SH J L R 0 0 (fun v s' I' L' R' => v = some (.int (fwG g a k i)) ∧ s' = SH ∧ L' = L ∧ R' = R ∧ mcF I' F ∧ mZ I' ∧ frB I I') := by
    intro a ha k
    induction k with
    | zero =>
      intro i J hi h1 hFJ hzJ hf
      refine wv_aload_n dX8_fewest_12 rfl ?_
      refine wv_iload_n dX8_fewest_13 rfl ?_
      refine wv_v1e oX8_isMany kX8_456 dX8_fewest_14 (by omega) (by first | assumption | rfl) ⟨rfl, by decide⟩ (Nat.le_of_ble_eq_true rfl) (Nat.le_of_ble_eq_true rfl) (x_isMany _) ?_
      refine wv_if_eq (tgt := 42) dX8_fewest_17 (by decide) (fun h17 => ?_) (fun h17 => absurd (by rw [if10]; exact fun q => by have := (nI_leI (b := 12) (by omega) (by omega)).mp q.2.1; omega) h17)
      refine wv_iconst (v := (-1)) dX8_fewest_42 (by decide) ?_
      refine wv_iret rfl dX8_fewest_43 ?_
      exact ⟨rfl, rfl, rfl, rfl, hFJ, hzJ, hf⟩
    | succ k ih =>
      intro i J hi h1 hFJ hzJ hf
      have hnJ : J 55 28 = nI (gN g) := (frB_g hf hg).1
      have hi1 : (1 : Int32) ≤ nI i := nI_le (a := 1) h1 (by omega)
      have hi2 : nI i ≤ 12 := nI_le (b := 12) (by omega) (by omega)
      refine wv_aload_n dX8_fewest_12 rfl ?_
      refine wv_iload_n dX8_fewest_13 rfl ?_
      refine wv_v1e oX8_isMany kX8_456 dX8_fewest_14 (by omega) (by first | assumption | rfl) ⟨rfl, by decide⟩ (Nat.le_of_ble_eq_true rfl) (Nat.le_of_ble_eq_true rfl) (x_isMany _) ?_
      refine wv_if_eq (tgt := 42) dX8_fewest_17 (by decide) (fun h17 => ?_) (fun h17 => ?_)
      · rw [hnJ, if10] at h17
        have hin : ¬ i ≤ gN g := fun q => h17 ⟨hi1, hi2, nI_le q (by omega)⟩
        refine wv_iconst (v := (-1)) dX8_fewest_42 (by decide) ?_
        refine wv_iret rfl dX8_fewest_43 ?_
        refine ⟨?_, rfl, rfl, rfl, hFJ, hzJ, hf⟩
        simp only [fwG]
        rw [if_neg hin]
      · rw [hnJ, if10, Decidable.not_not] at h17
        have hin : i ≤ gN g := (nI_leI (by omega) (by omega)).mp h17.2.2
        refine wv_aload_n dX8_fewest_20 rfl ?_
        refine wv_iload_n dX8_fewest_21 rfl ?_
        refine wv_iload_n dX8_fewest_22 rfl ?_
        refine wv_iconst (v := nI 0) dX8_fewest_23 rfl ?_
        refine wv_iconst (v := nI 0) dX8_fewest_24 rfl ?_
        refine wv_v4 oX8_livesBy kX8_459 dX8_fewest_25 (by omega) (by first | assumption | rfl) ⟨rfl, by decide⟩ (Nat.le_of_ble_eq_true rfl) (Nat.le_of_ble_eq_true rfl) (x_livesBy hR g F ok (frB_g hf hg) hFJ hzJ a i 0 0 (by omega) (by omega) (by omega) (by omega)) (fun v9 s9 J9 L9 R9 h9 => ?_)
        obtain ⟨rfl, rfl, rfl, rfl, hF9, hz9, hf9⟩ := h9
        refine wv_sipush (v := 200) dX8_fewest_28 (by decide) ?_
        refine wv_icmp_ne (tgt := 36) dX8_fewest_31 (by decide) (fun h31 => ?_) (fun h31 => ?_)
        · rw [life_0] at h31
          have h200 : ¬ life g (sfB (gN g) a i) (gD g) = 200 := fun q => h31 (by rw [q]; rfl)
          refine wv_iinc (v := nI (i + 1)) dX8_fewest_36 rfl (nI_1 (i)) (by decide) ?_
          refine wv_goto (tgt := 12) dX8_fewest_39 (by decide) ?_
          simp only [fwG]
          rw [if_pos hin, if_neg h200]
          exact wv_le (by simp [wr_leq, wr_s1, wr_s2, wr_wide]) (ih (i + 1) J9 (by omega) (by omega) hF9 hz9 (frB_tr hf hf9))
        · rw [life_0] at h31
          have h200 : life g (sfB (gN g) a i) (gD g) = 200 := (nI_eq (b := 200) (by have := life_le g (sfB (gN g) a i) (gD g); omega) (by omega)).mp h31
          refine wv_iload_n dX8_fewest_34 rfl ?_
          refine wv_iret rfl dX8_fewest_35 ?_
          refine ⟨?_, rfl, rfl, rfl, hF9, hz9, frB_tr hf hf9⟩
          simp only [fwG]
          rw [if_pos hin, if_pos h200]
  refine wv_pad 1 ?_
  show wr_V l 7 mX8_fewest 0 [some (.ref 55), some (.int x), none] [] SH I L R 0 0 _
  refine wv_aload_n dX8_fewest_0 rfl ?_
  refine wv_iload_n dX8_fewest_1 rfl ?_
  refine wv_v1e oX8_isSeat kX8_435 dX8_fewest_2 (by omega) (by first | assumption | rfl) ⟨rfl, by decide⟩ (Nat.le_of_ble_eq_true rfl) (Nat.le_of_ble_eq_true rfl) (x_isSeat _) ?_
  refine wv_if_ne (tgt := 10) dX8_fewest_5 (by decide) (fun h5 => ?_) (fun h5 => ?_)
  · rw [hn, if10] at h5
    have hx : oS g x := Decidable.not_not.mp h5
    obtain ⟨a, ha, rfl⟩ := ix_of hx (by omega)
    refine wv_iconst (v := nI 1) dX8_fewest_10 rfl ?_
    refine wv_istore_k (i := 2) dX8_fewest_11 rfl (by decide) ?_
    refine wr_V.imp (wv_le (by simp [wr_leq, wr_s1, wr_s2, wr_wide]) (lp a ha 12 1 I (by omega) (by omega) hF hz frB_rf)) (fun v s' I' L' R' h => ⟨h.1.trans ?_, h.2⟩)
    unfold aFewest
    rw [if_pos hx, tN_nI (by omega)]
  · rw [hn, if10] at h5
    refine wv_iconst (v := (-1)) dX8_fewest_8 (by decide) ?_
    refine wv_iret rfl dX8_fewest_9 ?_
    refine ⟨?_, rfl, rfl, rfl, hF, hz, frB_rf⟩
    unfold aFewest
    rw [if_neg h5]

set_option maxHeartbeats 4000000 in
set_option maxRecDepth 100000 in
theorem xW_best {l : Launch} {I : wr_TI} {L : wr_TL} {R : wr_TR} (hR : wr_RC R) (g : RG) (F : FS) (ok : gOK g) (hg : mgV I g) (hF : mcF I F) (hz : mZ I) (kk what : Int32) : wr_P l 7 mX8_best [.ref 55, .int kk, .int what] SH I L R (fun v s' I' L' R' => v = some (.int (aBest g kk what)) ∧ s' = SH ∧ L' = L ∧ R' = R ∧ mcF I' F ∧ mZ I' ∧ frB I I') := by
  obtain ⟨k6, k40, -⟩ := id ok
  have hn : I 55 28 = nI (gN g) := hg.1
  have lp : ∀ (m : Nat), m ≤ gN g → ∀ (k i : Nat) (p : Int32 × Int32) (J : wr_TI), i + k = gN g → mcF J F → mZ J → frB I J → wr_V l 7 mX8_best 27 [some (.ref 55), some (.int (nI m)), some (.int what), some (.int p.1), some (.int p.2), some (.int (nI i)), none] [] SH J L R 0 0 (fun v s' I' L' R' => v = some (.int (if what = 0 then (bsG g m k i p).1 else (bsG g m k i p).2)) ∧ s' = SH ∧ L' = L ∧ R' = R ∧ mcF I' F ∧ mZ I' ∧ frB I I') := by
    intro m hm k
    induction k with
    | zero =>
      intro i p J hi hFJ hzJ hf
      obtain rfl : i = gN g := by omega
      refine wv_iload dX8_best_27 rfl ?_
      refine wv_aload_n dX8_best_29 rfl ?_
      refine wv_getI fX8_151 dX8_best_30 rfl (by first | assumption | rfl) ?_
      refine wv_icmp_ge (tgt := 70) dX8_best_33 (by decide) (fun h33 => ?_) (fun h33 => absurd (by rw [(frB_g hf hg).1]; exact Int32.le_refl _) h33)
      refine wv_iload_n dX8_best_70 rfl ?_
      refine wv_if_ne (tgt := 78) dX8_best_71 (by decide) (fun h71 => ?_) (fun h71 => ?_)
      · refine wv_iload dX8_best_78 rfl ?_
        refine wv_iret rfl dX8_best_80 ?_
        refine ⟨?_, rfl, rfl, rfl, hFJ, hzJ, hf⟩
        first | rw [if_pos h71] | rw [if_neg h71]
        rfl
      · refine wv_iload_n dX8_best_74 rfl ?_
        refine wv_goto (tgt := 80) dX8_best_75 (by decide) ?_
        refine wv_iret rfl dX8_best_80 ?_
        refine ⟨?_, rfl, rfl, rfl, hFJ, hzJ, hf⟩
        first | rw [if_pos h71] | rw [if_neg h71]
        rfl
    | succ k ih =>
      intro i p J hi hFJ hzJ hf
      refine wv_iload dX8_best_27 rfl ?_
      refine wv_aload_n dX8_best_29 rfl ?_
      refine wv_getI fX8_151 dX8_best_30 rfl (by first | assumption | rfl) ?_
      refine wv_icmp_ge (tgt := 70) dX8_best_33 (by decide) (fun h33 => absurd h33 (by rw [(frB_g hf hg).1]; exact nI_ge (by omega) (by omega))) (fun h33 => ?_)
      refine wv_aload_n dX8_best_36 rfl ?_
      refine wv_iload dX8_best_37 rfl ?_
      refine wv_iload_n dX8_best_39 rfl ?_
      refine wv_iconst (v := nI 0) dX8_best_40 rfl ?_
      refine wv_iconst (v := nI 0) dX8_best_41 rfl ?_
      refine wv_v4 oX8_livesBy kX8_459 dX8_best_42 (by omega) (by first | assumption | rfl) ⟨rfl, by decide⟩ (Nat.le_of_ble_eq_true rfl) (Nat.le_of_ble_eq_true rfl) (x_livesBy hR g F ok (frB_g hf hg) hFJ hzJ i m 0 0 (by omega) (by omega) (by omega) (by omega)) (fun v9 s9 J9 L9 R9 h9 => ?_)
      obtain ⟨rfl, rfl, rfl, rfl, hF9, hz9, hf9⟩ := h9
      refine wv_istore dX8_best_45 (by decide) ?_
      refine wv_iload dX8_best_47 rfl ?_
      refine wv_iload dX8_best_49 rfl ?_
      refine wv_icmp_gt (tgt := 57) dX8_best_51 (by decide) (fun h51 => ?_) (fun h51 => ?_)
      · refine wv_iload dX8_best_57 rfl ?_
        refine wv_istore dX8_best_59 (by decide) ?_
        refine wv_iload dX8_best_61 rfl ?_
        refine wv_istore_k (i := 3) dX8_best_63 rfl (by decide) ?_
        refine wv_iinc (v := nI (i + 1)) dX8_best_64 rfl (nI_1 (i)) (by decide) ?_
        refine wv_goto (tgt := 27) dX8_best_67 (by decide) ?_
        rw [life_0] at h51
        simp only [bsG]
        first
          | (rw [if_neg (Int32.not_le.mpr h51)]
             have := ih (i + 1) (nI i, nI (life g (sfB (gN g) i m) (gD g))) J9 (by omega) hF9 hz9 (frB_tr hf hf9)
             rw [life_0]
             exact wv_le (by simp [wr_leq, wr_s1, wr_s2, wr_wide]) this)
          | (rw [if_pos (Int32.not_lt.mp h51)]
             exact wv_le (by simp [wr_leq, wr_s1, wr_s2, wr_wide]) (ih (i + 1) p J9 (by omega) hF9 hz9 (frB_tr hf hf9)))
      · refine wv_goto (tgt := 64) dX8_best_54 (by decide) ?_
        refine wv_iinc (v := nI (i + 1)) dX8_best_64 rfl (nI_1 (i)) (by decide) ?_
        refine wv_goto (tgt := 27) dX8_best_67 (by decide) ?_
        rw [life_0] at h51
        simp only [bsG]
        first
          | (rw [if_neg (Int32.not_le.mpr h51)]
             have := ih (i + 1) (nI i, nI (life g (sfB (gN g) i m) (gD g))) J9 (by omega) hF9 hz9 (frB_tr hf hf9)
             rw [life_0]
             exact wv_le (by simp [wr_leq, wr_s1, wr_s2, wr_wide]) this)
          | (rw [if_pos (Int32.not_lt.mp h51)]
             exact wv_le (by simp [wr_leq, wr_s1, wr_s2, wr_wide]) (ih (i + 1) p J9 (by omega) hF9 hz9 (frB_tr hf hf9)))
  refine wv_pad 4 ?_
  show wr_V l 7 mX8_best 0 [some (.ref 55), some (.int kk), some (.int what), none, none, none, none] [] SH I L R 0 0 _
  refine wv_aload_n dX8_best_0 rfl ?_
  refine wv_iload_n dX8_best_1 rfl ?_
  refine wv_v1e oX8_isMany kX8_456 dX8_best_2 (by omega) (by first | assumption | rfl) ⟨rfl, by decide⟩ (Nat.le_of_ble_eq_true rfl) (Nat.le_of_ble_eq_true rfl) (x_isMany _) ?_
  refine wv_if_eq (tgt := 17) dX8_best_5 (by decide) (fun h5 => ?_) (fun h5 => ?_)
  · rw [hn, if10] at h5
    refine wv_iconst (v := (-1)) dX8_best_17 (by decide) ?_
    refine wv_iret rfl dX8_best_18 ?_
    refine ⟨?_, rfl, rfl, rfl, hF, hz, frB_rf⟩
    unfold aBest
    rw [if_neg (fun q => by have q1 := q.1; have q2 := q.2.1; have q3 := q.2.2; grind)]
  · rw [hn, if10] at h5
    have hk : oM g kk := Decidable.not_not.mp h5
    refine wv_iload_n dX8_best_8 rfl ?_
    refine wv_if_lt (tgt := 17) dX8_best_9 (by decide) (fun h9 => ?_) (fun h9 => ?_)
    · refine wv_iconst (v := (-1)) dX8_best_17 (by decide) ?_
      refine wv_iret rfl dX8_best_18 ?_
      refine ⟨?_, rfl, rfl, rfl, hF, hz, frB_rf⟩
      unfold aBest
      rw [if_neg (fun q => by have q1 := q.1; have q2 := q.2.1; have q3 := q.2.2; grind)]
    · refine wv_iload_n dX8_best_12 rfl ?_
      refine wv_iconst (v := 1) dX8_best_13 (by decide) ?_
      refine wv_icmp_le (tgt := 19) dX8_best_14 (by decide) (fun h14 => ?_) (fun h14 => ?_)
      · have hw : 0 ≤ what ∧ what ≤ 1 := ⟨Int32.not_lt.mp h9, h14⟩
        obtain ⟨m, hm1, hm2, hm3, rfl⟩ := mk_of hk k40
        refine wv_iconst (v := 0) dX8_best_19 (by decide) ?_
        refine wv_istore_k (i := 3) dX8_best_20 rfl (by decide) ?_
        refine wv_iconst (v := (-1)) dX8_best_21 (by decide) ?_
        refine wv_istore dX8_best_22 (by decide) ?_
        refine wv_iconst (v := nI 0) dX8_best_24 rfl ?_
        refine wv_istore dX8_best_25 (by decide) ?_
        refine wr_V.imp (wv_le (by simp [wr_leq, wr_s1, wr_s2, wr_wide]) (lp m hm3 (gN g) 0 (0, -1) I (by omega) hF hz frB_rf)) (fun v s' I' L' R' h => ⟨h.1.trans ?_, h.2⟩)
        unfold aBest
        rw [if_pos (show oM g (nI m) ∧ 0 ≤ what ∧ what ≤ 1 from ⟨hk, hw⟩), tN_nI (by omega)]
      · refine wv_iconst (v := (-1)) dX8_best_17 (by decide) ?_
        refine wv_iret rfl dX8_best_18 ?_
        refine ⟨?_, rfl, rfl, rfl, hF, hz, frB_rf⟩
        unfold aBest
        rw [if_neg (fun q => by have q1 := q.1; have q2 := q.2.1; have q3 := q.2.2; grind)]

set_option maxHeartbeats 4000000 in
set_option maxRecDepth 100000 in
theorem xW_jumps {l : Launch} {I : wr_TI} {L : wr_TL} {R : wr_TR} (hR : wr_RC R) (g : RG) (F : FS) (ok : gOK g) (hg : mgV I g) (hF : mcF I F) (hz : mZ I) (x kk y : Int32) : wr_P l 7 mX8_jumps [.ref 55, .int x, .int kk, .int y] SH I L R (fun v s' I' L' R' => v = some (.int (aJumps g x kk y)) ∧ s' = SH ∧ L' = L ∧ R' = R ∧ mcF I' F ∧ mZ I' ∧ frB I I') := by
  obtain ⟨k6, k40, -⟩ := id ok
  have hn : I 55 28 = nI (gN g) := hg.1
  have lp : ∀ (a m c : Nat), a < gN g → m ≤ gN g → c < gN g → ∀ (k : Nat) (J : wr_TI), k ≤ 9 → mcF J F → mZ J → frB I J → wr_V l 7 mX8_jumps 44 [some (.ref 55), some (.int (nI a)), some (.int (nI m)), some (.int (nI c)), some (.int (nI k))] [] SH J L R 0 0 (fun v s' I' L' R' => v = some (.int (jmG g (sfB (gN g) a m) c k)) ∧ s' = SH ∧ L' = L ∧ R' = R ∧ mcF I' F ∧ mZ I' ∧ frB I I') := by
    intro a m c ha hm hc k
    induction k with
    | zero =>
      intro J hk hFJ hzJ hf
      refine wv_iload dX8_jumps_44 rfl ?_
      refine wv_if_le (tgt := 70) dX8_jumps_46 (by decide) (fun h46 => ?_) (fun h46 => absurd (Int32.le_refl _) h46)
      refine wv_iload dX8_jumps_70 rfl ?_
      refine wv_iret rfl dX8_jumps_72 ?_
      exact ⟨rfl, rfl, rfl, rfl, hFJ, hzJ, hf⟩
    | succ k ih =>
      intro J hk hFJ hzJ hf
      have hle := life_le g (sfB (gN g) a m) (fun s => gD g s || sfB (gN g) c (k + 1) s)
      refine wv_iload dX8_jumps_44 rfl ?_
      refine wv_if_le (tgt := 70) dX8_jumps_46 (by decide) (fun h46 => absurd h46 (fun q => by have := (nI_leI (b := 0) (by omega) (by omega)).mp q; omega)) (fun h46 => ?_)
      refine wv_aload_n dX8_jumps_49 rfl ?_
      refine wv_iload_n dX8_jumps_50 rfl ?_
      refine wv_iload_n dX8_jumps_51 rfl ?_
      refine wv_iload_n dX8_jumps_52 rfl ?_
      refine wv_iload dX8_jumps_53 rfl ?_
      refine wv_v4 oX8_livesBy kX8_459 dX8_jumps_55 (by omega) (by first | assumption | rfl) ⟨rfl, by decide⟩ (Nat.le_of_ble_eq_true rfl) (Nat.le_of_ble_eq_true rfl) (x_livesBy hR g F ok (frB_g hf hg) hFJ hzJ a m c (k + 1) (by omega) (by omega) (by omega) (by omega)) (fun v9 s9 J9 L9 R9 h9 => ?_)
      obtain ⟨rfl, rfl, rfl, rfl, hF9, hz9, hf9⟩ := h9
      refine wv_sipush (v := 200) dX8_jumps_58 (by decide) ?_
      refine wv_icmp_ge (tgt := 70) dX8_jumps_61 (by decide) (fun h61 => ?_) (fun h61 => ?_)
      · have h200 : life g (sfB (gN g) a m) (fun s => gD g s || sfB (gN g) c (k + 1) s) = 200 := by
          have := (nI_leI (a := 200) (by omega) (by omega)).mp h61
          omega
        refine wv_iload dX8_jumps_70 rfl ?_
        refine wv_iret rfl dX8_jumps_72 ?_
        refine ⟨?_, rfl, rfl, rfl, hF9, hz9, frB_tr hf hf9⟩
        simp only [jmG]
        rw [if_pos h200]
      · have h200 : ¬ life g (sfB (gN g) a m) (fun s => gD g s || sfB (gN g) c (k + 1) s) = 200 := fun q => h61 (by rw [q]; exact Int32.le_refl _)
        refine wv_iinc (v := nI k) dX8_jumps_64 rfl (pk_m1 k) (by decide) ?_
        refine wv_goto (tgt := 44) dX8_jumps_67 (by decide) ?_
        simp only [jmG]
        rw [if_neg h200]
        exact wv_le (by simp [wr_leq, wr_s1, wr_s2, wr_wide]) (ih J9 (by omega) hF9 hz9 (frB_tr hf hf9))
  refine wv_pad 1 ?_
  show wr_V l 7 mX8_jumps 0 [some (.ref 55), some (.int x), some (.int kk), some (.int y), none] [] SH I L R 0 0 _
  refine wv_aload_n dX8_jumps_0 rfl ?_
  refine wv_iload_n dX8_jumps_1 rfl ?_
  refine wv_v1e oX8_isSeat kX8_435 dX8_jumps_2 (by omega) (by first | assumption | rfl) ⟨rfl, by decide⟩ (Nat.le_of_ble_eq_true rfl) (Nat.le_of_ble_eq_true rfl) (x_isSeat _) ?_
  refine wv_if_eq (tgt := 38) dX8_jumps_5 (by decide) (fun h5 => ?_) (fun h5 => ?_)
  · rw [hn, if10] at h5
    have hno : ¬ (oS g x ∧ oM g kk ∧ oS g y ∧ life g (sfB (gN g) (tN x) (tN kk)) (gD g) = 200) := fun q => h5 q.1
    refine wv_iconst (v := (-1)) dX8_jumps_38 (by decide) ?_
    refine wv_iret rfl dX8_jumps_39 ?_
    first
      | (have _ := hf9
         refine ⟨?_, rfl, rfl, rfl, hF9, hz9, hf9⟩
         unfold aJumps
         rw [tN_nI (by omega), tN_nI (by omega), if_neg (fun q => h200 q.2.2.2)])
      | (refine ⟨?_, rfl, rfl, rfl, hF, hz, frB_rf⟩
         unfold aJumps
         rw [if_neg hno])
  · rw [hn, if10] at h5
    have hx : oS g x := Decidable.not_not.mp h5
    refine wv_aload_n dX8_jumps_8 rfl ?_
    refine wv_iload_n dX8_jumps_9 rfl ?_
    refine wv_v1e oX8_isSeat kX8_435 dX8_jumps_10 (by omega) (by first | assumption | rfl) ⟨rfl, by decide⟩ (Nat.le_of_ble_eq_true rfl) (Nat.le_of_ble_eq_true rfl) (x_isSeat _) ?_
    refine wv_if_eq (tgt := 38) dX8_jumps_13 (by decide) (fun h13 => ?_) (fun h13 => ?_)
    · rw [hn, if10] at h13
      have hno : ¬ (oS g x ∧ oM g kk ∧ oS g y ∧ life g (sfB (gN g) (tN x) (tN kk)) (gD g) = 200) := fun q => h13 q.2.2.1
      refine wv_iconst (v := (-1)) dX8_jumps_38 (by decide) ?_
      refine wv_iret rfl dX8_jumps_39 ?_
      first
        | (have _ := hf9
           refine ⟨?_, rfl, rfl, rfl, hF9, hz9, hf9⟩
           unfold aJumps
           rw [tN_nI (by omega), tN_nI (by omega), if_neg (fun q => h200 q.2.2.2)])
        | (refine ⟨?_, rfl, rfl, rfl, hF, hz, frB_rf⟩
           unfold aJumps
           rw [if_neg hno])
    · rw [hn, if10] at h13
      have hy : oS g y := Decidable.not_not.mp h13
      refine wv_aload_n dX8_jumps_16 rfl ?_
      refine wv_iload_n dX8_jumps_17 rfl ?_
      refine wv_v1e oX8_isMany kX8_456 dX8_jumps_18 (by omega) (by first | assumption | rfl) ⟨rfl, by decide⟩ (Nat.le_of_ble_eq_true rfl) (Nat.le_of_ble_eq_true rfl) (x_isMany _) ?_
      refine wv_if_eq (tgt := 38) dX8_jumps_21 (by decide) (fun h21 => ?_) (fun h21 => ?_)
      · rw [hn, if10] at h21
        have hno : ¬ (oS g x ∧ oM g kk ∧ oS g y ∧ life g (sfB (gN g) (tN x) (tN kk)) (gD g) = 200) := fun q => h21 q.2.1
        refine wv_iconst (v := (-1)) dX8_jumps_38 (by decide) ?_
        refine wv_iret rfl dX8_jumps_39 ?_
        first
          | (have _ := hf9
             refine ⟨?_, rfl, rfl, rfl, hF9, hz9, hf9⟩
             unfold aJumps
             rw [tN_nI (by omega), tN_nI (by omega), if_neg (fun q => h200 q.2.2.2)])
          | (refine ⟨?_, rfl, rfl, rfl, hF, hz, frB_rf⟩
             unfold aJumps
             rw [if_neg hno])
      · rw [hn, if10] at h21
        have hk : oM g kk := Decidable.not_not.mp h21
        obtain ⟨a, ha, rfl⟩ := ix_of hx (by omega)
        obtain ⟨c, hc, rfl⟩ := ix_of hy (by omega)
        obtain ⟨m, hm1, hm2, hm3, rfl⟩ := mk_of hk k40
        have hle := life_le g (sfB (gN g) a m) (gD g)
        refine wv_aload_n dX8_jumps_24 rfl ?_
        refine wv_iload_n dX8_jumps_25 rfl ?_
        refine wv_iload_n dX8_jumps_26 rfl ?_
        refine wv_iload_n dX8_jumps_27 rfl ?_
        refine wv_iconst (v := nI 0) dX8_jumps_28 rfl ?_
        refine wv_v4 oX8_livesBy kX8_459 dX8_jumps_29 (by omega) (by first | assumption | rfl) ⟨rfl, by decide⟩ (Nat.le_of_ble_eq_true rfl) (Nat.le_of_ble_eq_true rfl) (x_livesBy hR g F ok hg hF hz a m c 0 (by omega) (by omega) (by omega) (by omega)) (fun v9 s9 J9 L9 R9 h9 => ?_)
        obtain ⟨rfl, rfl, rfl, rfl, hF9, hz9, hf9⟩ := h9
        refine wv_sipush (v := 200) dX8_jumps_32 (by decide) ?_
        refine wv_icmp_ge (tgt := 40) dX8_jumps_35 (by decide) (fun h35 => ?_) (fun h35 => ?_)
        · rw [life_0] at h35
          have h200 : life g (sfB (gN g) a m) (gD g) = 200 := by
            have := (nI_leI (a := 200) (by omega) (by omega)).mp h35
            omega
          refine wv_bipush (v := nI 9) dX8_jumps_40 rfl ?_
          refine wv_istore dX8_jumps_42 (by decide) ?_
          refine wr_V.imp (wv_le (by simp [wr_leq, wr_s1, wr_s2, wr_wide]) (lp a m c ha hm3 hc 9 J9 (by omega) hF9 hz9 hf9)) (fun v s' I' L' R' h => ⟨h.1.trans ?_, h.2⟩)
          unfold aJumps
          rw [tN_nI (by omega), tN_nI (by omega), tN_nI (by omega), if_pos ⟨hx, hk, hy, h200⟩]
        · rw [life_0] at h35
          have h200 : ¬ life g (sfB (gN g) a m) (gD g) = 200 := fun q => h35 (by rw [q]; exact Int32.le_refl _)
          refine wv_iconst (v := (-1)) dX8_jumps_38 (by decide) ?_
          refine wv_iret rfl dX8_jumps_39 ?_
          first
            | (have _ := hf9
               refine ⟨?_, rfl, rfl, rfl, hF9, hz9, hf9⟩
               unfold aJumps
               rw [tN_nI (by omega), tN_nI (by omega), if_neg (fun q => h200 q.2.2.2)])
            | (refine ⟨?_, rfl, rfl, rfl, hF, hz, frB_rf⟩
               unfold aJumps
               rw [if_neg hno])

