/-! a plain law's rows of bits, a tenth on -/
theorem beh_tab : ∀ u : Fin 3, ∀ r : Fin 4, ∀ v : Fin 14, (v.val = 0 ∨ (1 ≤ v.val ∧ v.val ≤ u.val + 1) ∨ (11 ≤ v.val ∧ v.val ≤ 10 + r.val)) → ¬ beh (nI (u.val + 1)) (nI r.val) (nI v.val) = 1 ∧ decide (beh (nI (u.val + 1)) (nI r.val) (nI v.val) = 2) = (decide (1 < u.val + 1) && decide (v.val = 1)) ∧ decide (beh (nI (u.val + 1)) (nI r.val) (nI v.val) = 3) = (decide (2 < u.val + 1) && decide (v.val = 2)) ∧ decide (beh (nI (u.val + 1)) (nI r.val) (nI v.val) = 11) = (decide (0 < r.val) && decide (v.val = u.val + 1)) ∧ decide (beh (nI (u.val + 1)) (nI r.val) (nI v.val) = 12) = (decide (1 < r.val) && decide (v.val = 11)) ∧ decide (beh (nI (u.val + 1)) (nI r.val) (nI v.val) = 13) = (decide (2 < r.val) && decide (v.val = 12)) ∧ (beh (nI (u.val + 1)) (nI r.val) (nI v.val) = 0 ∨ (1 ≤ beh (nI (u.val + 1)) (nI r.val) (nI v.val) ∧ beh (nI (u.val + 1)) (nI r.val) (nI v.val) ≤ nI (u.val + 1)) ∨ (11 ≤ beh (nI (u.val + 1)) (nI r.val) (nI v.val) ∧ beh (nI (u.val + 1)) (nI r.val) (nI v.val) ≤ nI (10 + r.val))) := by decide +kernel
theorem beh_40 : ∀ u : Fin 3, ∀ r : Fin 4, beh (nI (u.val + 1)) (nI r.val) 40 = 40 := by decide +kernel
theorem pv_of {u r : Nat} (hu : u ≤ 3) (hr : r ≤ 3) {v : Int32} (h : v = 0 ∨ (1 ≤ v ∧ v ≤ nI u) ∨ (11 ≤ v ∧ v ≤ nI (10 + r))) : ∃ k, k < 14 ∧ v = nI k ∧ (k = 0 ∨ (1 ≤ k ∧ k ≤ u) ∨ (11 ≤ k ∧ k ≤ 10 + r)) := by
  rcases h with h | ⟨h1, h2⟩ | ⟨h1, h2⟩
  · exact ⟨0, by omega, h, Or.inl rfl⟩
  · obtain ⟨k, hk, rfl⟩ := nI_of2 (M := nI u) (n := u) (x := v) (nI_toInt (by omega)) (by grind) h2
    exact ⟨k, by omega, rfl, Or.inr (Or.inl ⟨(nI_leI (a := 1) (by omega) (by omega)).mp h1, hk⟩)⟩
  · obtain ⟨k, hk, rfl⟩ := nI_of2 (M := nI (10 + r)) (n := 10 + r) (x := v) (nI_toInt (by omega)) (by grind) h2
    exact ⟨k, by omega, rfl, Or.inr (Or.inr ⟨(nI_leI (a := 11) (by omega) (by omega)).mp h1, hk⟩)⟩
theorem nI_dec {k m : Nat} (hk : k < 14) (hm : m < 14) : decide (nI k = nI m) = decide (k = m) := by
  by_cases h : k = m
  · subst h; simp
  · have : ¬ nI k = nI m := fun q => h ((nI_eq (by omega) (by omega)).mp q)
    simp [h, this]
theorem pcn_ck {g : RG} {a : Nat} {ps : Nat → Int32} {f : Nat → Bool} (hn : 0 < gN g) (hf : ∀ u, u < gN g → f u = e1 ps u) (s : Nat) : ck g a f (2 * pm g a) s = pcn g a ps s := by
  unfold ck pcn
  rw [show (2 * pm g a + 1) / 2 = pm g a by omega, show 2 * pm g a / 2 = pm g a by omega, sL_congr hn hf, sR_congr hn hf]
theorem pv_step {u r : Nat} (hu : u < 3) (hr : r < 4) {v : Int32} {gp dr c : Bool} (k1 : gp = true → v = 40) (k2 : gp = false → v = 0 ∨ (1 ≤ v ∧ v ≤ nI (u + 1)) ∨ (11 ≤ v ∧ v ≤ nI (10 + r))) {y : Int32} (hy : y = if v = 0 ∧ dr = false ∧ c = true then 1 else beh (nI (u + 1)) (nI r) v) :
    decide (y = 1) = (c && !(decide (v = 1) || decide (v = 2) || decide (v = 3) || decide (v = 11) || decide (v = 12) || decide (v = 13) || gp || dr)) ∧ decide (y = 2) = (decide (1 < u + 1) && decide (v = 1)) ∧ decide (y = 3) = (decide (2 < u + 1) && decide (v = 2)) ∧ decide (y = 11) = (decide (0 < r) && decide (v = nI (u + 1))) ∧ decide (y = 12) = (decide (1 < r) && decide (v = 11)) ∧ decide (y = 13) = (decide (2 < r) && decide (v = 12)) ∧ (gp = true → y = 40) ∧ (gp = false → y = 0 ∨ (1 ≤ y ∧ y ≤ nI (u + 1)) ∨ (11 ≤ y ∧ y ≤ nI (10 + r))) := by
  cases hg : gp with
  | true =>
    have h40 := k1 hg
    subst h40
    rw [if_neg (by simp), beh_40 ⟨u, hu⟩ ⟨r, hr⟩] at hy
    subst hy
    have hn : ¬ (40 : Int32) = nI (u + 1) := by
      intro q
      have := (nI_eq (a := 40) (by omega) (by omega)).mp q
      omega
    simp [hn]
  | false =>
    obtain ⟨k, hk, rfl, hkv⟩ := pv_of (by omega) (by omega) (k2 hg)
    obtain ⟨t1, t2, t3, t4, t5, t6, t7⟩ := beh_tab ⟨u, hu⟩ ⟨r, hr⟩ ⟨k, hk⟩ hkv
    have d1 : decide (nI k = 1) = decide (k = 1) := nI_dec (m := 1) hk (by decide)
    have d2 : decide (nI k = 2) = decide (k = 2) := nI_dec (m := 2) hk (by decide)
    have d3 : decide (nI k = 3) = decide (k = 3) := nI_dec (m := 3) hk (by decide)
    have d11 : decide (nI k = 11) = decide (k = 11) := nI_dec (m := 11) hk (by decide)
    have d12 : decide (nI k = 12) = decide (k = 12) := nI_dec (m := 12) hk (by decide)
    have d13 : decide (nI k = 13) = decide (k = 13) := nI_dec (m := 13) hk (by decide)
    have du : decide (nI k = nI (u + 1)) = decide (k = u + 1) := nI_dec hk (by omega)
    rw [d1, d2, d3, d11, d12, d13, du]
    by_cases hc : nI k = 0 ∧ dr = false ∧ c = true
    · rw [if_pos hc] at hy
      subst hy
      have h0 : k = 0 := (nI_eq (b := 0) (by omega) (by omega)).mp hc.1
      subst h0
      obtain ⟨-, rfl, rfl⟩ := hc
      refine ⟨by simp, by simp, by simp, by simp, by simp, by simp, by simp, fun _ => Or.inr (Or.inl ⟨by decide, nI_le (a := 1) (by omega) (by omega)⟩)⟩
    · rw [if_neg hc] at hy
      subst hy
      refine ⟨?_, t2, t3, t4, t5, t6, by simp, fun _ => t7⟩
      have : decide (beh (nI (u + 1)) (nI r) (nI k) = 1) = false := by simpa using t1
      rw [this]
      by_cases hk0 : k = 0
      · subst hk0
        have hc2 : ¬ (dr = false ∧ c = true) := fun q => hc ⟨rfl, q.1, q.2⟩
        cases dr <;> cases c <;> simp_all
      · have : k = 1 ∨ k = 2 ∨ k = 3 ∨ k = 11 ∨ k = 12 ∨ k = 13 := by omega
        rcases this with rfl | rfl | rfl | rfl | rfl | rfl <;> simp
theorem pl_step {I : wr_TI} {L : wr_TL} {q t a : Nat} {g : RG} {ps : Nat → Int32} {x : Int64} (hV : rgV I L t g) (ha : a < 324) (hB : plB L q (gN g) ps) (hp : pvl g (a / 4 % 3 + 1) (a % 4) ps)
    (hx : ∀ s, s < 64 → lb x s = (decide (s < gN g) && decide (a / 12 % 3 + 1 ≤ ck g a (lb (L q 7)) (2 * pm g a) s))) :
    plB (goL L q (a / 4 % 3 + 1) (a % 4) (x &&& ((L q 7 ||| L q 8 ||| L q 9 ||| L q 10 ||| L q 11 ||| L q 12 ||| L t 6 ||| L t 7) ^^^ (-1)))) q (gN g) (pst g a ps) ∧ pvl g (a / 4 % 3 + 1) (a % 4) (pst g a ps) := by
  have hn6 := hV.2.1
  have hn40 := hV.2.2.1
  have hck : ∀ s, ck g a (lb (L q 7)) (2 * pm g a) s = pcn g a ps s := fun s => pcn_ck (by omega) (fun v hv => by rw [(hB v (by omega)).1]; simp [hv, e1]) s
  have key := fun s (hs : s < gN g) => pv_step (u := a / 4 % 3) (r := a % 4) (by omega) (by omega) (v := ps s) (gp := gG g s) (dr := gD g s) (c := decide (a / 12 % 3 + 1 ≤ pcn g a ps s)) (hp s hs).1 (hp s hs).2 (y := pst g a ps s) (by unfold pst; rw [if_pos hs]; simp)
  have hr2 : a % 4 < 4 := by omega
  have hu2 : a / 4 % 3 < 3 := by omega
  refine ⟨fun s hs => ?_, fun s hs => ⟨(key s hs).2.2.2.2.2.2.1, (key s hs).2.2.2.2.2.2.2⟩⟩
  obtain ⟨b1, b2, b3, b4, b5, b6⟩ := hB s hs
  by_cases hsn : s < gN g
  · obtain ⟨q1, q2, q3, q4, q5, q6, -, -⟩ := key s hsn
    simp only [hsn, decide_true, Bool.true_and] at b1 b2 b3 b4 b5 b6 ⊢
    rw [q1, q2, q3, q4, q5, q6]
    refine ⟨?_, ?_, ?_, ?_, ?_, ?_⟩
    · have e : ∀ y, goL L q (a / 4 % 3 + 1) (a % 4) y q 7 = y := fun y => by simp [goL]
      rw [e, lb_and, lb_not _ hs, hx s hs, lb_or, lb_or, lb_or, lb_or, lb_or, lb_or, lb_or, b1, b2, b3, b4, b5, b6, hV.2.2.2.1, hV.2.2.2.2.1, hck]
      simp [hsn]
    · have e : ∀ y, goL L q (a / 4 % 3 + 1) (a % 4) y q 8 = if 1 < a / 4 % 3 + 1 then L q 7 else 0 := fun y => by simp [goL]
      rw [e]
      by_cases h : 1 < a / 4 % 3 + 1
      · rw [if_pos h, b1]; simp [h]
      · rw [if_neg h, lb_0]; simp [h]
    · have e : ∀ y, goL L q (a / 4 % 3 + 1) (a % 4) y q 9 = if 2 < a / 4 % 3 + 1 then L q 8 else 0 := fun y => by simp [goL]
      rw [e]
      by_cases h : 2 < a / 4 % 3 + 1
      · rw [if_pos h, b2]; simp [h]
      · rw [if_neg h, lb_0]; simp [h]
    · have e : ∀ y, goL L q (a / 4 % 3 + 1) (a % 4) y q 10 = if 0 < a % 4 then (if a / 4 % 3 + 1 = 1 then L q 7 else if a / 4 % 3 + 1 = 2 then L q 8 else L q 9) else 0 := fun y => by simp [goL]
      rw [e]
      by_cases h : 0 < a % 4
      · rw [if_pos h]
        rcases (by omega : a / 4 % 3 + 1 = 1 ∨ a / 4 % 3 + 1 = 2 ∨ a / 4 % 3 + 1 = 3) with h9 | h9 | h9
        · rw [h9, if_pos rfl, b1]; simp [h]; rfl
        · rw [h9, if_neg (by omega), if_pos rfl, b2]; simp [h]; rfl
        · rw [h9, if_neg (by omega), if_neg (by omega), b3]; simp [h]; rfl
      · rw [if_neg h, lb_0]; simp [h]
    · have e : ∀ y, goL L q (a / 4 % 3 + 1) (a % 4) y q 11 = if 1 < a % 4 then L q 10 else 0 := fun y => by simp [goL]
      rw [e]
      by_cases h : 1 < a % 4
      · rw [if_pos h, b4]; simp [h]
      · rw [if_neg h, lb_0]; simp [h]
    · have e : ∀ y, goL L q (a / 4 % 3 + 1) (a % 4) y q 12 = if 2 < a % 4 then L q 11 else 0 := fun y => by simp [goL]
      rw [e]
      by_cases h : 2 < a % 4
      · rw [if_pos h, b5]; simp [h]
      · rw [if_neg h, lb_0]; simp [h]
  · simp only [hsn, decide_false, Bool.false_and] at b1 b2 b3 b4 b5 b6 ⊢
    refine ⟨?_, ?_, ?_, ?_, ?_, ?_⟩
    · have e : ∀ y, goL L q (a / 4 % 3 + 1) (a % 4) y q 7 = y := fun y => by simp [goL]
      rw [e, lb_and, hx s hs]
      simp [hsn]
    · have e : ∀ y, goL L q (a / 4 % 3 + 1) (a % 4) y q 8 = if 1 < a / 4 % 3 + 1 then L q 7 else 0 := fun y => by simp [goL]
      rw [e]; split
      · exact b1
      · exact lb_0 s
    · have e : ∀ y, goL L q (a / 4 % 3 + 1) (a % 4) y q 9 = if 2 < a / 4 % 3 + 1 then L q 8 else 0 := fun y => by simp [goL]
      rw [e]; split
      · exact b2
      · exact lb_0 s
    · have e : ∀ y, goL L q (a / 4 % 3 + 1) (a % 4) y q 10 = if 0 < a % 4 then (if a / 4 % 3 + 1 = 1 then L q 7 else if a / 4 % 3 + 1 = 2 then L q 8 else L q 9) else 0 := fun y => by simp [goL]
      rw [e]; split
      · split
        · exact b1
        · split
          · exact b2
          · exact b3
      · exact lb_0 s
    · have e : ∀ y, goL L q (a / 4 % 3 + 1) (a % 4) y q 11 = if 1 < a % 4 then L q 10 else 0 := fun y => by simp [goL]
      rw [e]; split
      · exact b4
      · exact lb_0 s
    · have e : ∀ y, goL L q (a / 4 % 3 + 1) (a % 4) y q 12 = if 2 < a % 4 then L q 11 else 0 := fun y => by simp [goL]
      rw [e]; split
      · exact b5
      · exact lb_0 s
