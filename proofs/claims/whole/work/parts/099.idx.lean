/-! array rules by a natural index -/
section WrIdx
variable {l : Launch} {d : Nat} {M : wr_M} {pc : Nat} {ls : List (Option Value)} {st : List Value} {sh : List wr_S} {I : wr_TI} {L : wr_TL} {R : wr_TR} {mc ms : Nat} {Q : wr_TQ}
theorem wv_ialdK {j n : Nat} {i : Int32} {k : Nat} (hd : decode M.2.1 pc = .ok (.iaload, 1)) (hs : sh[j]? = some (.inl (0, n))) (hk : i.toNatClampNeg = k) (hi : vp_in i n) (k9 : wr_V l d M (pc + 1) ls (.int (I j k) :: st) sh I L R mc ms Q) : wr_V l d M pc ls (.int i :: .ref j :: st) sh I L R mc ms Q := wv_iald hd hs hi (by rw [hk]; exact k9)
theorem wv_ialdN {j n : Nat} {k : Nat} (hd : decode M.2.1 pc = .ok (.iaload, 1)) (hs : sh[j]? = some (.inl (0, n))) (hi : k < n) (hn : n < 2 ^ 31) (k9 : wr_V l d M (pc + 1) ls (.int (I j k) :: st) sh I L R mc ms Q) : wr_V l d M pc ls (.int (nI k) :: .ref j :: st) sh I L R mc ms Q := wv_ialdK hd hs (nI_clamp (by omega)) (vp_in_nI hi hn) k9
theorem wv_baldK {j n : Nat} {i : Int32} {k : Nat} (hd : decode M.2.1 pc = .ok (.baload, 1)) (hs : sh[j]? = some (.inl (1, n))) (hk : i.toNatClampNeg = k) (hi : vp_in i n) (k9 : wr_V l d M (pc + 1) ls (.int (I j k) :: st) sh I L R mc ms Q) : wr_V l d M pc ls (.int i :: .ref j :: st) sh I L R mc ms Q := wv_bald hd hs hi (by rw [hk]; exact k9)
theorem wv_baldN {j n : Nat} {k : Nat} (hd : decode M.2.1 pc = .ok (.baload, 1)) (hs : sh[j]? = some (.inl (1, n))) (hi : k < n) (hn : n < 2 ^ 31) (k9 : wr_V l d M (pc + 1) ls (.int (I j k) :: st) sh I L R mc ms Q) : wr_V l d M pc ls (.int (nI k) :: .ref j :: st) sh I L R mc ms Q := wv_baldK hd hs (nI_clamp (by omega)) (vp_in_nI hi hn) k9
theorem wv_zaldK {j n : Nat} {i : Int32} {k : Nat} (hd : decode M.2.1 pc = .ok (.baload, 1)) (hs : sh[j]? = some (.inl (2, n))) (hk : i.toNatClampNeg = k) (hi : vp_in i n) (k9 : wr_V l d M (pc + 1) ls (.int (I j k) :: st) sh I L R mc ms Q) : wr_V l d M pc ls (.int i :: .ref j :: st) sh I L R mc ms Q := wv_zald hd hs hi (by rw [hk]; exact k9)
theorem wv_zaldN {j n : Nat} {k : Nat} (hd : decode M.2.1 pc = .ok (.baload, 1)) (hs : sh[j]? = some (.inl (2, n))) (hi : k < n) (hn : n < 2 ^ 31) (k9 : wr_V l d M (pc + 1) ls (.int (I j k) :: st) sh I L R mc ms Q) : wr_V l d M pc ls (.int (nI k) :: .ref j :: st) sh I L R mc ms Q := wv_zaldK hd hs (nI_clamp (by omega)) (vp_in_nI hi hn) k9
theorem wv_laldK {j n : Nat} {i : Int32} {k : Nat} (hd : decode M.2.1 pc = .ok (.laload, 1)) (hs : sh[j]? = some (.inl (3, n))) (hk : i.toNatClampNeg = k) (hi : vp_in i n) (k9 : wr_V l d M (pc + 1) ls (.long (L j k) :: st) sh I L R mc ms Q) : wr_V l d M pc ls (.int i :: .ref j :: st) sh I L R mc ms Q := wv_lald hd hs hi (by rw [hk]; exact k9)
theorem wv_laldN {j n : Nat} {k : Nat} (hd : decode M.2.1 pc = .ok (.laload, 1)) (hs : sh[j]? = some (.inl (3, n))) (hi : k < n) (hn : n < 2 ^ 31) (k9 : wr_V l d M (pc + 1) ls (.long (L j k) :: st) sh I L R mc ms Q) : wr_V l d M pc ls (.int (nI k) :: .ref j :: st) sh I L R mc ms Q := wv_laldK hd hs (nI_clamp (by omega)) (vp_in_nI hi hn) k9
theorem wv_iastK {j n : Nat} {i : Int32} {x : Int32} {k : Nat} (hd : decode M.2.1 pc = .ok (.iastore, 1)) (hs : sh[j]? = some (.inl (0, n))) (hk : i.toNatClampNeg = k) (hi : vp_in i n) (k9 : wr_V l d M (pc + 1) ls st sh (wr_uI I j k x) (L) R mc ms Q) : wr_V l d M pc ls (.int x :: .int i :: .ref j :: st) sh I L R mc ms Q := wv_iast hd hs hi (by rw [hk]; exact k9)
theorem wv_iastN {j n : Nat} {x : Int32} {k : Nat} (hd : decode M.2.1 pc = .ok (.iastore, 1)) (hs : sh[j]? = some (.inl (0, n))) (hi : k < n) (hn : n < 2 ^ 31) (k9 : wr_V l d M (pc + 1) ls st sh (wr_uI I j k x) (L) R mc ms Q) : wr_V l d M pc ls (.int x :: .int (nI k) :: .ref j :: st) sh I L R mc ms Q := wv_iastK hd hs (nI_clamp (by omega)) (vp_in_nI hi hn) k9
theorem wv_bastK {j n : Nat} {i : Int32} {x : Int32} {k : Nat} (hd : decode M.2.1 pc = .ok (.bastore, 1)) (hs : sh[j]? = some (.inl (1, n))) (hk : i.toNatClampNeg = k) (hi : vp_in i n) (k9 : wr_V l d M (pc + 1) ls st sh (wr_uI I j k (vp_nar .byte x)) (L) R mc ms Q) : wr_V l d M pc ls (.int x :: .int i :: .ref j :: st) sh I L R mc ms Q := wv_bast hd hs hi (by rw [hk]; exact k9)
theorem wv_bastN {j n : Nat} {x : Int32} {k : Nat} (hd : decode M.2.1 pc = .ok (.bastore, 1)) (hs : sh[j]? = some (.inl (1, n))) (hi : k < n) (hn : n < 2 ^ 31) (k9 : wr_V l d M (pc + 1) ls st sh (wr_uI I j k (vp_nar .byte x)) (L) R mc ms Q) : wr_V l d M pc ls (.int x :: .int (nI k) :: .ref j :: st) sh I L R mc ms Q := wv_bastK hd hs (nI_clamp (by omega)) (vp_in_nI hi hn) k9
theorem wv_zastK {j n : Nat} {i : Int32} {x : Int32} {k : Nat} (hd : decode M.2.1 pc = .ok (.bastore, 1)) (hs : sh[j]? = some (.inl (2, n))) (hk : i.toNatClampNeg = k) (hi : vp_in i n) (k9 : wr_V l d M (pc + 1) ls st sh (wr_uI I j k (vp_nar .boolean x)) (L) R mc ms Q) : wr_V l d M pc ls (.int x :: .int i :: .ref j :: st) sh I L R mc ms Q := wv_zast hd hs hi (by rw [hk]; exact k9)
theorem wv_zastN {j n : Nat} {x : Int32} {k : Nat} (hd : decode M.2.1 pc = .ok (.bastore, 1)) (hs : sh[j]? = some (.inl (2, n))) (hi : k < n) (hn : n < 2 ^ 31) (k9 : wr_V l d M (pc + 1) ls st sh (wr_uI I j k (vp_nar .boolean x)) (L) R mc ms Q) : wr_V l d M pc ls (.int x :: .int (nI k) :: .ref j :: st) sh I L R mc ms Q := wv_zastK hd hs (nI_clamp (by omega)) (vp_in_nI hi hn) k9
theorem wv_lastK {j n : Nat} {i : Int32} {x : Int64} {k : Nat} (hd : decode M.2.1 pc = .ok (.lastore, 1)) (hs : sh[j]? = some (.inl (3, n))) (hk : i.toNatClampNeg = k) (hi : vp_in i n) (k9 : wr_V l d M (pc + 1) ls st sh (I) (wr_uL L j k x) R mc ms Q) : wr_V l d M pc ls (.long x :: .int i :: .ref j :: st) sh I L R mc ms Q := wv_last hd hs hi (by rw [hk]; exact k9)
theorem wv_lastN {j n : Nat} {x : Int64} {k : Nat} (hd : decode M.2.1 pc = .ok (.lastore, 1)) (hs : sh[j]? = some (.inl (3, n))) (hi : k < n) (hn : n < 2 ^ 31) (k9 : wr_V l d M (pc + 1) ls st sh (I) (wr_uL L j k x) R mc ms Q) : wr_V l d M pc ls (.long x :: .int (nI k) :: .ref j :: st) sh I L R mc ms Q := wv_lastK hd hs (nI_clamp (by omega)) (vp_in_nI hi hn) k9
/-- more locals, of which nothing is known -/
theorem wv_pad (k : Nat) (h : wr_V l d M pc (ls ++ List.replicate k none) st sh I L R mc ms Q) : wr_V l d M pc ls st sh I L R mc ms Q := by
  refine wv_ls (fun i v hi => ?_) h
  by_cases hl : i < ls.length
  · rwa [List.getElem?_append_left hl] at hi
  · rw [List.getElem?_append_right (by omega), List.getElem?_replicate] at hi
    split at hi <;> simp at hi
def wr_leq : List (Option Value) → List (Option Value) → Prop
  | [], _ => True
  | none :: a, [] => wr_leq a []
  | none :: a, _ :: b => wr_leq a b
  | some v :: a, some w :: b => v = w ∧ wr_leq a b
  | some _ :: _, _ => False
theorem wr_leq_get : ∀ {a b : List (Option Value)}, wr_leq a b → ∀ (i : Nat) (v : Value), a[i]? = some (some v) → b[i]? = some (some v) := by
  intro a
  induction a with
  | nil => intro b _ i v h; simp at h
  | cons x a ih =>
    intro b hb i v h
    match x, b, hb with
    | none, [], hb =>
      match i, h with
      | i + 1, h => have := ih (b := []) hb i v (by simpa using h); simp at this
    | none, y :: b, hb =>
      match i, h with
      | i + 1, h => simpa using ih (b := b) hb i v (by simpa using h)
    | some u, some w :: b, hb =>
      obtain ⟨h1, h2⟩ := hb
      match i, h with
      | 0, h => simpa [h1] using h
      | i + 1, h => simpa using ih (b := b) h2 i v (by simpa using h)
theorem wv_le {ls' : List (Option Value)} (h : wr_leq ls' ls) (k : wr_V l d M pc ls' st sh I L R mc ms Q) : wr_V l d M pc ls st sh I L R mc ms Q := wv_ls (wr_leq_get h) k
theorem wv_I {I' : wr_TI} (h : ∀ a b, I a b = I' a b) (k : wr_V l d M pc ls st sh I' L R mc ms Q) : wr_V l d M pc ls st sh I L R mc ms Q := by
  have e : I = I' := funext fun a => funext fun b => h a b
  rw [e]; exact k
theorem wv_L {L' : wr_TL} (h : ∀ a b, L a b = L' a b) (k : wr_V l d M pc ls st sh I L' R mc ms Q) : wr_V l d M pc ls st sh I L R mc ms Q := by
  have e : L = L' := funext fun a => funext fun b => h a b
  rw [e]; exact k
theorem wv_istore_k {n : Fin 4} {x : Int32} {i : Nat} (hd : decode M.2.1 pc = .ok (.istore_n n, 1)) (hi : (n : Nat) = i) (hn : i < M.2.2.1) (k : wr_V l d M (pc + 1) (wr_s1 ls i (.int x)) st sh I L R mc ms Q) : wr_V l d M pc ls (.int x :: st) sh I L R mc ms Q := by
  subst hi; exact wv_istore_n hd hn k
theorem wv_lstore_k {n : Fin 4} {x : Int64} {i : Nat} (hd : decode M.2.1 pc = .ok (.lstore_n n, 1)) (hi : (n : Nat) = i) (hn : i + 1 < M.2.2.1) (k : wr_V l d M (pc + 1) (wr_s2 ls i (.long x)) st sh I L R mc ms Q) : wr_V l d M pc ls (.long x :: st) sh I L R mc ms Q := by
  subst hi; exact wv_lstore_n hd hn k
theorem wv_astore_k {n : Fin 4} {x : Nat} {i : Nat} (hd : decode M.2.1 pc = .ok (.astore_n n, 1)) (hi : (n : Nat) = i) (hn : i < M.2.2.1) (k : wr_V l d M (pc + 1) (wr_s1 ls i (.ref x)) st sh I L R mc ms Q) : wr_V l d M pc ls (.ref x :: st) sh I L R mc ms Q := by
  subst hi; exact wv_astore_n hd hn k
theorem wr_ne {x v : Int32} (h : ¬ x = v) : x.toInt ≠ v.toInt := fun e => h (Int32.toInt_inj.mp e)
end WrIdx
