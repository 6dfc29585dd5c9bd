/-! a tenth, whole -/
abbrev FS : Type := SS × (Nat → Int32) × Int32
def rsP (g : RG) (S : SS) : Nat → Bool := fun s => decide (s < gN g) && wnt g (gD g) S s
def rsE (g : RG) (F : FS) : Nat → Bool := if gSh g = 0 then rsP g F.1 else fun s => rsP g F.1 s && !decide (d10 (drw (dw (rsP g F.1) F.2.2 s)) < gSh g)
def rsW (g : RG) (F : FS) : Int32 := if gSh g = 0 then F.2.2 else dw (rsP g F.1) F.2.2 (gN g)
def stepF (g : RG) (F : FS) : FS := (stp g (rsE g F) F.1, fun k => F.2.1 k + nI (wyN g (f1 F.1) (rsE g F) k (gN g)), rsW g F)
def crF (I : wr_TI) (L : wr_TL) (c : Nat) (g : RG) (F : FS) : Prop := crV I L c g F.1 ∧ (∀ k, k < 3 → I (c + 3) k = F.2.1 k) ∧ I c 8 = F.2.2
def frL (c t : Nat) (I : wr_TI) (L : wr_TL) (I' : wr_TI) (L' : wr_TL) : Prop := (∀ a, a < c ∨ c + 5 ≤ a → a ≠ t + 3 → I' a = I a) ∧ ∀ a, a ≠ c → L' a = L a
theorem rsE_lt {g : RG} {F : FS} {s : Nat} (h : rsE g F s = true) : s < gN g ∧ wnt g (gD g) F.1 s = true := by
  unfold rsE at h
  by_cases h0 : gSh g = 0
  · rw [if_pos h0] at h; simpa [rsP] using h
  · rw [if_neg h0] at h; simp [rsP] at h; exact h.1
theorem dw_cut {P : Nat → Bool} {w : Int32} {n : Nat} (h : ∀ s, n ≤ s → P s = false) : ∀ k, dw P w (n + k) = dw P w n := by
  intro k
  induction k with
  | zero => rfl
  | succ k ih =>
    rw [← Nat.add_assoc]
    simp only [dw]
    rw [h (n + k) (by omega)]
    simpa using ih
theorem wyN_cut {g : RG} {f f' P : Nat → Bool} {k : Nat} (hn : 0 < gN g) (h40 : gN g ≤ 40) (hf : ∀ u, u < gN g → f u = f' u) (hP : ∀ s, gN g ≤ s → P s = false) : wyN g f P k 40 = wyN g f' P k (gN g) := by
  unfold wyN
  rw [cn_cut (m := gN g) h40 (fun i h1 _ => by rw [hP i h1]; rfl)]
  apply cn_congr
  intro i _
  rw [sL_congr hn hf, sR_congr hn hf]
theorem rsP_ge {g : RG} {S : SS} {s : Nat} (h : gN g ≤ s) : rsP g S s = false := by
  have : ¬ s < gN g := by omega
  simp [rsP, this]
theorem rsE_ge {g : RG} {F : FS} {s : Nat} (h : gN g ≤ s) : rsE g F s = false := by
  cases he : rsE g F s with
  | false => rfl
  | true => have := (rsE_lt he).1; omega
theorem lb_rsP (g : RG) (S : SS) (hn : gN g ≤ 40) : lb (orb 0 (wnt g (gD g) S) (gN g)) = rsP g S := by
  funext s
  by_cases hs : s < 64
  · exact lb_wnt g _ hn s hs
  · rw [lb_big (by omega), rsP_ge (by omega)]
set_option maxHeartbeats 4000000 in
set_option maxRecDepth 100000 in
theorem cC_live0 {l : Launch} {I : wr_TI} {L : wr_TL} {R : wr_TR} (c t : Nat) (g : RG) (F : FS) (hc : isC R c) (hg : isG R t) (hV : rgV I L t g) (hF : crF I L c g F) (h0 : gSh g = 0) : wr_P l 4 mX0_liveOn [.ref c, .ref t] SH I L R (fun v s' I' L' R' => (∃ y, v = some (.long y) ∧ ∀ s, s < 64 → lb y s = rsE g F s) ∧ s' = SH ∧ R' = R ∧ crF I' L' c g (stepF g F) ∧ frL c t I L I' L') := by
  have hc' := hc
  have hg' := hg
  have hn40 := hV.2.2.1
  have hn6 := hV.2.1
  obtain ⟨z0, z1, c0, c1, c2, c3, c4, r0, r1, r2, r3⟩ := hc
  obtain ⟨y0, g0, g1, g2, g3, g4, g5, g6, p0, p1, p2, p3, p4, p5⟩ := hg
  refine wv_pad 2 ?_
  show wr_V l 4 mX0_liveOn 0 [some (.ref c), some (.ref t), none, none] [] SH I L R 0 0 _
  refine wv_aload_n dX0_liveOn_0 rfl ?_
  refine wv_aload_n dX0_liveOn_1 rfl ?_
  refine wv_aload_n dX0_liveOn_2 rfl ?_
  refine wv_aload_n dX0_liveOn_3 rfl ?_
  refine wv_getL fX0_89 dX0_liveOn_4 rfl (by first | assumption | rfl) ?_
  refine wv_v2 oX0_willing kX0_92 dX0_liveOn_7 (by omega) (by first | assumption | rfl) ⟨rfl, by decide⟩ (Nat.le_of_ble_eq_true rfl) (Nat.le_of_ble_eq_true rfl) (cC_willing c t g F.1 _ (gD g) hc' hg' hV hF.1 hV.2.2.2.2.1) (fun v9 s9 J9 L9 R9 h9 => ?_)
  obtain ⟨rfl, rfl, rfl, rfl, hJ⟩ := h9
  obtain ⟨y, hyd⟩ : ∃ y, y = orb 0 (wnt g (gD g) F.1) (gN g) := ⟨_, rfl⟩
  have hyb : lb y = rsE g F := by rw [hyd, lb_rsP g F.1 hn40]; unfold rsE; rw [if_pos h0]
  have hy : ∀ s, s < 64 → lb y s = rsE g F s := fun s _ => by rw [hyb]
  have hsh : J9 t 12 = 0 := by rw [hJ t (by omega) (by omega), hV.2.2.2.2.2.2.2.2.2.2.2.2.2.2.2.2.2.2.1, h0]
  have hVJ : rgV J9 L9 t g := rgV_fr hV (fun a h1 h2 h3 => hJ a (by omega) h3) rfl
  have hSJ : crV J9 L9 c g F.1 := crV_fr hF.1 (hJ c (by omega) (by omega)) (hJ (c + 1) (by omega) (by omega)) (hJ (c + 2) (by omega) (by omega))
  have hJw : ∀ k, k < 3 → J9 (c + 3) k = I (c + 3) k := fun k _ => by rw [hJ (c + 3) (by omega) (by omega)]
  have hJ8 : J9 c 8 = rsW g F := by rw [hJ c (by omega) (by omega)]; unfold rsW; rw [if_pos h0]; exact hF.2.2
  rw [← hyd]
  refine wv_aload_n dX0_liveOn_10 rfl ?_
  refine wv_getI fX0_96 dX0_liveOn_11 rfl (by first | assumption | rfl) ?_
  rw [hsh]
  refine wv_v2e oX0_withoutTheShy kX0_99 dX0_liveOn_14 (by omega) (by first | assumption | rfl) ⟨rfl, by decide⟩ (Nat.le_of_ble_eq_true rfl) (Nat.le_of_ble_eq_true rfl) (cC_shy0 c y hc') ?_
  refine wv_lstore_k (i := 2) dX0_liveOn_17 rfl (by decide) ?_
  refine wv_aload_n dX0_liveOn_18 rfl ?_
  refine wv_aload_n dX0_liveOn_19 rfl ?_
  refine wv_lload_n dX0_liveOn_20 rfl ?_
  refine wv_v2 oX0_countWays kX0_102 dX0_liveOn_21 (by omega) (by first | assumption | rfl) ⟨rfl, by decide⟩ (Nat.le_of_ble_eq_true rfl) (Nat.le_of_ble_eq_true rfl) (cC_ways c t g y hc' hg' hVJ (fun s hs => by rw [hyb]; exact rsE_ge hs) (fun s hs => crV_fx hF.1 hs)) (fun v8 s8 K L8 R8 h8 => ?_)
  obtain ⟨rfl, rfl, rfl, rfl, hK, hKw⟩ := h8
  have hVK : rgV K L8 t g := rgV_fr hVJ (fun a h1 h2 h3 => hK a (by omega) (by omega)) rfl
  have hSK : crV K L8 c g F.1 := crV_fr hSJ (hK c (by omega) (by omega)) (hK (c + 1) (by omega) (by omega)) (hK (c + 2) (by omega) (by omega))
  refine wv_aload_n dX0_liveOn_24 rfl ?_
  refine wv_aload_n dX0_liveOn_25 rfl ?_
  refine wv_lload_n dX0_liveOn_26 rfl ?_
  refine wv_v2u oX0_move kX0_106 dX0_liveOn_27 (by omega) (by first | assumption | rfl) ⟨rfl, by decide⟩ (Nat.le_of_ble_eq_true rfl) (Nat.le_of_ble_eq_true rfl) (cC_move c t (gN g) y hc' hg' hVK.1 hVK.2.2.1) ?_
  refine wv_lload_n dX0_liveOn_30 rfl ?_
  refine wv_lret rfl dX0_liveOn_31 ?_
  refine ⟨⟨y, rfl, hy⟩, rfl, rfl, ⟨?_, ?_, ?_⟩, fun a h1 h2 => ?_, fun a ha => ?_⟩
  · exact crV_move (by omega) hVK hSK (fun s hs => by rw [hy s hs]; by_cases hsn : s < gN g <;> simp [hsn]; exact rsE_ge (by omega)) (fun s _ h => wnt_0 (rsE_lt h).2)
  · intro k hk
    have e : mvI K c t y (gN g) (c + 3) k = K (c + 3) k := by simp only [mvI, mvS]; rw [if_neg (by omega), if_neg (by omega), if_neg (by omega)]
    rw [e, hKw k hk, hyb, wyN_cut (f' := f1 F.1) (by omega) hn40 (fun u hu => crV_f1 hF.1 (by omega)) (fun s hs => rsE_ge hs), hJw k hk, hF.2.1 k hk]
    rfl
  · have e : mvI K c t y (gN g) c 8 = K c 8 := by simp only [mvI, mvS]; rw [if_neg (by omega), if_neg (by omega), if_neg (by omega)]
    rw [e, hK c (by omega) (by omega), hJ8]
    rfl
  · have e : mvI K c t y (gN g) a = K a := by
      funext b
      simp only [mvI, mvS]
      rw [if_neg (by omega), if_neg (by omega), if_neg (by omega)]
    rw [e, hK a (by omega) (by omega), hJ a (by omega) h2]
  · funext b
    simp [mvL, ha]

set_option maxHeartbeats 4000000 in
set_option maxRecDepth 100000 in
theorem cC_live1 {l : Launch} {I : wr_TI} {L : wr_TL} {R : wr_TR} (c t : Nat) (g : RG) (F : FS) (hc : isC R c) (hg : isG R t) (hV : rgV I L t g) (hF : crF I L c g F) (h0 : ¬ gSh g = 0) : wr_P l 4 mX0_liveOn [.ref c, .ref t] SH I L R (fun v s' I' L' R' => (∃ y, v = some (.long y) ∧ ∀ s, s < 64 → lb y s = rsE g F s) ∧ s' = SH ∧ R' = R ∧ crF I' L' c g (stepF g F) ∧ frL c t I L I' L') := by
  have hc' := hc
  have hg' := hg
  have hn40 := hV.2.2.1
  have hn6 := hV.2.1
  obtain ⟨z0, z1, c0, c1, c2, c3, c4, r0, r1, r2, r3⟩ := hc
  obtain ⟨y0, g0, g1, g2, g3, g4, g5, g6, p0, p1, p2, p3, p4, p5⟩ := hg
  refine wv_pad 2 ?_
  show wr_V l 4 mX0_liveOn 0 [some (.ref c), some (.ref t), none, none] [] SH I L R 0 0 _
  refine wv_aload_n dX0_liveOn_0 rfl ?_
  refine wv_aload_n dX0_liveOn_1 rfl ?_
  refine wv_aload_n dX0_liveOn_2 rfl ?_
  refine wv_aload_n dX0_liveOn_3 rfl ?_
  refine wv_getL fX0_89 dX0_liveOn_4 rfl (by first | assumption | rfl) ?_
  refine wv_v2 oX0_willing kX0_92 dX0_liveOn_7 (by omega) (by first | assumption | rfl) ⟨rfl, by decide⟩ (Nat.le_of_ble_eq_true rfl) (Nat.le_of_ble_eq_true rfl) (cC_willing c t g F.1 _ (gD g) hc' hg' hV hF.1 hV.2.2.2.2.1) (fun v9 s9 J9 L9 R9 h9 => ?_)
  obtain ⟨rfl, rfl, rfl, rfl, hJ'⟩ := h9
  have hsh : J9 t 12 = gSh g := by rw [hJ' t (by omega) (by omega), hV.2.2.2.2.2.2.2.2.2.2.2.2.2.2.2.2.2.2.1]
  have h98 : J9 c 8 = F.2.2 := by rw [hJ' c (by omega) (by omega)]; exact hF.2.2
  obtain ⟨y, hyd⟩ : ∃ y, y = anb (orb 0 (wnt g (gD g) F.1) (gN g)) (shK (rsP g F.1) F.2.2 (gSh g)) 40 := ⟨_, rfl⟩
  have hyb : lb y = rsE g F := by
    funext s
    by_cases hs : s < 64
    · rw [hyd, lb_anb _ _ 40 (by omega) s hs, lb_rsP g F.1 hn40]
      unfold rsE shK
      rw [if_neg h0]
      by_cases h40 : s < 40
      · simp only [h40, decide_true, Bool.true_and]
        cases rsP g F.1 s <;> simp
      · rw [rsP_ge (by omega)]; simp
    · rw [lb_big (by omega), rsE_ge (by omega)]
  have hy : ∀ s, s < 64 → lb y s = rsE g F s := fun s _ => by rw [hyb]
  obtain ⟨J, hJd⟩ : ∃ J, J = wr_uI J9 c 8 (dw (rsP g F.1) F.2.2 40) := ⟨_, rfl⟩
  have hJ : ∀ a, a < c ∨ c + 1 ≤ a → a ≠ c + 4 → a ≠ t + 3 → J a = I a := fun a h1 h2 h3 => by rw [hJd, wr_uI_ne (by omega)]; exact hJ' a h2 h3
  have hJc : ∀ k, k ≠ 8 → J c k = I c k := fun k hk => by rw [hJd, ← hJ' c (by omega) (by omega)]; simp [wr_uI, hk]
  have hVJ : rgV J L9 t g := rgV_fr hV (fun a h1 h2 h3 => hJ a (by omega) (by omega) h3) rfl
  have hSJ : crV J L9 c g F.1 := by
    have q := hF.1
    unfold crV at *
    rw [hJ (c + 1) (by omega) (by omega) (by omega), hJ (c + 2) (by omega) (by omega) (by omega), hJc 6 (by omega), hJc 7 (by omega)]
    exact q
  have hJw : ∀ k, k < 3 → J (c + 3) k = I (c + 3) k := fun k _ => by rw [hJ (c + 3) (by omega) (by omega) (by omega)]
  have hJ8 : J c 8 = rsW g F := by
    rw [hJd]
    unfold rsW
    rw [if_neg h0]
    simp only [wr_uI, and_self, if_true]
    obtain ⟨d, hd⟩ : ∃ d, 40 = gN g + d := ⟨40 - gN g, by omega⟩
    rw [hd]
    exact dw_cut (fun s hs => rsP_ge hs) d
  have hcs := cC_shy (l := l) (I := J9) (L := L9) (R := R9) c (orb 0 (wnt g (gD g) F.1) (gN g)) (gSh g) hc' h0
  rw [lb_rsP g F.1 hn40, h98, ← hyd, ← hJd] at hcs
  refine wv_aload_n dX0_liveOn_10 rfl ?_
  refine wv_getI fX0_96 dX0_liveOn_11 rfl (by first | assumption | rfl) ?_
  rw [hsh]
  refine wv_v2e oX0_withoutTheShy kX0_99 dX0_liveOn_14 (by omega) (by first | assumption | rfl) ⟨rfl, by decide⟩ (Nat.le_of_ble_eq_true rfl) (Nat.le_of_ble_eq_true rfl) hcs ?_
  refine wv_lstore_k (i := 2) dX0_liveOn_17 rfl (by decide) ?_
  refine wv_aload_n dX0_liveOn_18 rfl ?_
  refine wv_aload_n dX0_liveOn_19 rfl ?_
  refine wv_lload_n dX0_liveOn_20 rfl ?_
  refine wv_v2 oX0_countWays kX0_102 dX0_liveOn_21 (by omega) (by first | assumption | rfl) ⟨rfl, by decide⟩ (Nat.le_of_ble_eq_true rfl) (Nat.le_of_ble_eq_true rfl) (cC_ways c t g y hc' hg' hVJ (fun s hs => by rw [hyb]; exact rsE_ge hs) (fun s hs => crV_fx hF.1 hs)) (fun v8 s8 K L8 R8 h8 => ?_)
  obtain ⟨rfl, rfl, rfl, rfl, hK, hKw⟩ := h8
  have hVK : rgV K L8 t g := rgV_fr hVJ (fun a h1 h2 h3 => hK a (by omega) (by omega)) rfl
  have hSK : crV K L8 c g F.1 := crV_fr hSJ (hK c (by omega) (by omega)) (hK (c + 1) (by omega) (by omega)) (hK (c + 2) (by omega) (by omega))
  refine wv_aload_n dX0_liveOn_24 rfl ?_
  refine wv_aload_n dX0_liveOn_25 rfl ?_
  refine wv_lload_n dX0_liveOn_26 rfl ?_
  refine wv_v2u oX0_move kX0_106 dX0_liveOn_27 (by omega) (by first | assumption | rfl) ⟨rfl, by decide⟩ (Nat.le_of_ble_eq_true rfl) (Nat.le_of_ble_eq_true rfl) (cC_move c t (gN g) y hc' hg' hVK.1 hVK.2.2.1) ?_
  refine wv_lload_n dX0_liveOn_30 rfl ?_
  refine wv_lret rfl dX0_liveOn_31 ?_
  refine ⟨⟨y, rfl, hy⟩, rfl, rfl, ⟨?_, ?_, ?_⟩, fun a h1 h2 => ?_, fun a ha => ?_⟩
  · exact crV_move (by omega) hVK hSK (fun s hs => by rw [hy s hs]; by_cases hsn : s < gN g <;> simp [hsn]; exact rsE_ge (by omega)) (fun s _ h => wnt_0 (rsE_lt h).2)
  · intro k hk
    have e : mvI K c t y (gN g) (c + 3) k = K (c + 3) k := by simp only [mvI, mvS]; rw [if_neg (by omega), if_neg (by omega), if_neg (by omega)]
    rw [e, hKw k hk, hyb, wyN_cut (f' := f1 F.1) (by omega) hn40 (fun u hu => crV_f1 hF.1 (by omega)) (fun s hs => rsE_ge hs), hJw k hk, hF.2.1 k hk]
    rfl
  · have e : mvI K c t y (gN g) c 8 = K c 8 := by simp only [mvI, mvS]; rw [if_neg (by omega), if_neg (by omega), if_neg (by omega)]
    rw [e, hK c (by omega) (by omega), hJ8]
    rfl
  · have e : mvI K c t y (gN g) a = K a := by
      funext b
      simp only [mvI, mvS]
      rw [if_neg (by omega), if_neg (by omega), if_neg (by omega)]
    rw [e, hK a (by omega) (by omega), hJ a (by omega) (by omega) h2]
  · funext b
    simp [mvL, ha]

theorem cC_live {l : Launch} {I : wr_TI} {L : wr_TL} {R : wr_TR} (c t : Nat) (g : RG) (F : FS) (hc : isC R c) (hg : isG R t) (hV : rgV I L t g) (hF : crF I L c g F) : wr_P l 4 mX0_liveOn [.ref c, .ref t] SH I L R (fun v s' I' L' R' => (∃ y, v = some (.long y) ∧ ∀ s, s < 64 → lb y s = rsE g F s) ∧ s' = SH ∧ R' = R ∧ crF I' L' c g (stepF g F) ∧ frL c t I L I' L') := by
  by_cases h0 : gSh g = 0
  · exact cC_live0 c t g F hc hg hV hF h0
  · exact cC_live1 c t g F hc hg hV hF h0
