/-! fields and arrays -/
section WrMem
variable {Z : wr_Z} {l : Launch} {d : Nat} {M : wr_M} {pc : Nat} {ls : List (Option Value)} {st : List Value} {sh : List wr_S} {I I' : wr_TI} {L L' : wr_TL} {R R' : wr_TR} {mc ms : Nat} {Q : wr_TQ}
variable {p : Program} {e : Env} {Rm : Room} {s : State} {m : MethodId} {args : Array Value} {below : List Frame} {meth : Method} {c : Code} {H : Heap} {locs : List Loc} {cells slots mT sT : Nat} {la : Array Slot} {QW : State → Prop} {rest : List Value}
theorem wr_get {j ci k idx : Nat} {v : Value} (X : wr_X Z M d ls sh I L R mc ms p Rm s m meth c H locs cells slots mT sT la) (hf : wr_FL M.1.cls idx ci k) (hs : sh[j]? = some (.inr ci)) (hv : wr_fv Z I L R j (wr_kd (wr_ty ci k)) k = v) (hd : decode M.2.1 pc = .ok (.getfield idx, 3))
    (kk : W p l e Rm s m args below meth c H locs cells slots QW (F0 m (pc + 3) la (v :: rest))) : W p l e Rm s m args below meth c H locs cells slots QW (F0 m pc la (.ref (Z.2.2.2.1 j) :: rest)) := by
  obtain ⟨hci, hk, hl⟩ := hf
  obtain ⟨c1, c2, c3, c4⟩ := wr_ck hci
  have he := wr_wd_get (Z := Z) (I := I) (L := L) (R := R) hs
  rcases hl with hl | ⟨host, hl⟩
  · exact va_get (D := Z.1) (ws := wr_wd Z sh I L R) X.1.1 X.1.2.1 (fun w h => X.2.1.1.1 w h args) c2 X.1.2.2.2.2.1 X.2.1.1.2.2.1 X.2.2.2.1.2.2 j he c1 k hk (X.2.1.1.1 _ hl args) (fun _ h => h) (v := v) (by rw [← hv]; exact wr_fs_get hk) hd kk
  · exact va_getN (D := Z.1) (ws := wr_wd Z sh I L R) X.1.1 X.1.2.1 (fun w h => X.2.1.1.1 w h args) c2 X.1.2.2.2.2.1 X.2.1.1.2.2.1 X.2.2.2.1.2.2 j he c1 k hk (va_Nw.use rfl (X.2.1.1.2.1 _ hl)) (fun _ h => h) (v := v) (by rw [← hv]; exact wr_fs_get hk) hd kk
/-- behind a write of a field -/
theorem wr_H_put {j ci k : Nat} {v : Value} {H1 : Heap} {cell : Cell} (hz : ∀ j, j < 1000000 → Z.2.2.2.1 j = Z.2.2.1 + j) (hH : wr_H Z sh I L R H) (hs : sh[j]? = some (.inr ci)) (hci : ci < 9) (hk : k < wr_nf ci) (hap : ∀ x y, x < wr_nf ci → y < wr_nf ci → x ≠ y → (Z.1.2 ci) x ≠ (Z.1.2 ci) y)
    (q2 : cell.cls = Z.1.1 ci) (q3 : cell.vm = .none) (q4 : ∀ k, k < wr_nf ci → cell.slots[Z.1.2 ci k]? = some (vp_V (wr_fs Z ci I L R j) k)) (e1 : H1[Z.2.2.2.1 j]? = some (cell.setSlot (Z.1.2 ci k) v)) (e2 : H1.size = H.size) (e3 : ∀ q, q ≠ Z.2.2.2.1 j → H1[q]? = H[q]?)
    (hv : wr_fv Z I' L' R' j (wr_kd (wr_ty ci k)) k = v) (ho : ∀ i : Nat, i ≠ k → I' j i = I j i ∧ L' j i = L j i ∧ R' j i = R j i) (hn : ∀ i, i ≠ j → I' i = I i ∧ L' i = L i ∧ R' i = R i) : wr_H Z sh I' L' R' H1 := by
  obtain ⟨h1, h2, h3⟩ := hH
  have hjl : j < sh.length := (List.getElem?_eq_some_iff.mp hs).1
  refine ⟨⟨by rw [e2]; exact h1.1, fun k => by rw [(hn 1000300 (by omega)).1]; exact h1.2 k⟩, h2, ?_⟩
  have he := wr_wd_get (Z := Z) (I := I) (L := L) (R := R) hs
  have := h3.set (wr_wd_D hz h2) he (e := .inr (ci, (wr_fs Z ci I L R j).set k v)) ⟨_, (wr_ck hci).1, t_OB.to (V := updV (vp_V (wr_fs Z ci I L R j)) k v) ⟨_, e1, q2, q3, t_set q4 hap hk v⟩ (fun i _ => vp_updV_set (by rw [wr_fs_len]; exact hk) v i)⟩ e3
  rwa [wr_wd_set (I' := I') (L' := L') (R' := R') hs rfl (by simp only [wr_ce]; rw [wr_fs_set hv ho]) (fun i y hi => wr_ce_eq (hn i hi).1 (hn i hi).2.1 (hn i hi).2.2 y)] at this
theorem wr_put {j ci k idx : Nat} {v : Value} (X : wr_X Z M d ls sh I L R mc ms p Rm s m meth c H locs cells slots mT sT la) (hf : wr_FL M.1.cls idx ci k) (hs : sh[j]? = some (.inr ci)) (hfin : (wr_fT ci k).2.2.2 = false) (hn : narrow (wr_ty ci k) v = v) (hfit : fits (wr_ty ci k) v = true)
    (hv : wr_fv Z I' L' R' j (wr_kd (wr_ty ci k)) k = v) (ho : ∀ i : Nat, i ≠ k → I' j i = I j i ∧ L' j i = L j i ∧ R' j i = R j i) (hm : ∀ i, i ≠ j → I' i = I i ∧ L' i = L i ∧ R' i = R i) (hd : decode M.2.1 pc = .ok (.putfield idx, 3))
    (kk : ∀ (H1 : Heap) (locs1 : List Loc), wr_H Z sh I' L' R' H1 → va_S (wr_A Z) s.heap H1 locs1 → W p l e Rm s m args below meth c H1 locs1 cells slots QW (F0 m (pc + 3) la rest)) : W p l e Rm s m args below meth c H locs cells slots QW (F0 m pc la (v :: .ref (Z.2.2.2.1 j) :: rest)) := by
  obtain ⟨hci, hk, hl⟩ := hf
  obtain ⟨c1, c2, c3, c4⟩ := wr_ck hci
  have he := wr_wd_get (Z := Z) (I := I) (L := L) (R := R) hs
  have hts : ∀ w ∈ wr_TG, w.before args s = true := fun w h => X.2.1.1.1 w h args
  have hK := X.2.1.1.2.2.1
  have hz := X.2.1.1.2.2.2
  have hD := wr_wd_D (sh := sh) (I := I) (L := L) (R := R) hz X.2.2.2.1.2.1
  have hap := va_apart (own := M.1.cls) hts c2 (wr_ty ci) c3 c4 hK c1
  obtain ⟨r, h1, cell, q1, q2, q3, q4⟩ := X.2.2.2.1.2.2 j _ he
  have hr : r = (wr_fC ci, wr_fT ci, wr_nf ci) := Option.some.inj (h1.symm.trans c1)
  subst hr
  obtain ⟨hS, hfc, kC, hkC, hkind⟩ := hK.1 ci _ c1
  obtain ⟨cf, kf, fi, f, hi, hsl⟩ := hS k hk
  have hlay := hts _ (c2 _ (u_in_lay hk))
  unfold u_lay at hlay
  rw [if_neg (by rw [hfin]; decide)] at hlay
  have hst := (u_facts hfc hkC (u_lays hts c2 hk) hi).1
  have h6 := u_store hfc hkC hkind hlay hi (c3 k hk) hn hfit
  have fin : ∀ H' : Heap, H'[Z.2.2.2.1 j]? = some (cell.setSlot f.slot v) → H'.size = H.size → (∀ q, q ≠ Z.2.2.2.1 j → H'[q]? = H[q]?) → W p l e Rm s m args below meth c H' (locs ++ [⟨Z.2.2.2.1 j, f.slot⟩]) cells slots QW (F0 m (pc + 3) la rest) := by
    intro H' e1 e2 e3
    rw [hsl] at e1
    exact kk H' _ (wr_H_put hz X.2.2.2.1 hs hci hk hap q2 q3 q4 e1 e2 e3 hv ho hm) (X.2.2.2.2.1.put e2 e3 (hD.2 j _ he))
  rcases hl with hl | ⟨host, hl⟩
  · exact W.putK X.1.1 X.1.2.1 (f := f) ⟨X.1.2.2.2.2.1, X.2.1.1.1 _ hl args, ⟨_, _, _, hi⟩, hst⟩ (by rw [q2]; exact h6) q1 q3 (by rw [hsl]; exact k2_hasslot (q4 k hk)) rfl rfl hd fin
  · exact va_WputK X.1.1 X.1.2.1 (f := f) X.1.2.2.2.2.1 (va_Nw.use rfl (X.2.1.1.2.1 _ hl)) hi hst (by rw [q2]; exact h6) q1 q3 (by rw [hsl]; exact k2_hasslot (q4 k hk)) rfl rfl hd fin
/-- a final field, in a constructor -/
theorem wr_putF {j ci k idx : Nat} {v : Value} (X : wr_X Z M d ls sh I L R mc ms p Rm s m meth c H locs cells slots mT sT la) (hci : ci < 9) (hk : k < wr_nf ci) (hl : Cond.fieldLink M.1.cls idx (wr_fT ci k).1 (wr_fT ci k).2.1 (wr_fT ci k).2.2.1 ∈ wr_TG) (hs : sh[j]? = some (.inr ci)) (hfin : (wr_fT ci k).2.2.2 = true) (hin : M.1.name = "<init>") (hdecl : (wr_fT ci k).1 = M.1.cls) (hn : narrow (wr_ty ci k) v = v) (hfit : fits (wr_ty ci k) v = true)
    (hv : wr_fv Z I' L' R' j (wr_kd (wr_ty ci k)) k = v) (ho : ∀ i : Nat, i ≠ k → I' j i = I j i ∧ L' j i = L j i ∧ R' j i = R j i) (hm : ∀ i, i ≠ j → I' i = I i ∧ L' i = L i ∧ R' i = R i) (hd : decode M.2.1 pc = .ok (.putfield idx, 3))
    (kk : ∀ (H1 : Heap) (locs1 : List Loc), wr_H Z sh I' L' R' H1 → va_S (wr_A Z) s.heap H1 locs1 → W p l e Rm s m args below meth c H1 locs1 cells slots QW (F0 m (pc + 3) la rest)) : W p l e Rm s m args below meth c H locs cells slots QW (F0 m pc la (v :: .ref (Z.2.2.2.1 j) :: rest)) := by
  obtain ⟨c1, c2, c3, c4⟩ := wr_ck hci
  have he := wr_wd_get (Z := Z) (I := I) (L := L) (R := R) hs
  have hts : ∀ w ∈ wr_TG, w.before args s = true := fun w h => X.2.1.1.1 w h args
  have hK := X.2.1.1.2.2.1
  have hz := X.2.1.1.2.2.2
  have hD := wr_wd_D (sh := sh) (I := I) (L := L) (R := R) hz X.2.2.2.1.2.1
  have hap := va_apart (own := M.1.cls) hts c2 (wr_ty ci) c3 c4 hK c1
  obtain ⟨r, h1, cell, q1, q2, q3, q4⟩ := X.2.2.2.1.2.2 j _ he
  have hr : r = (wr_fC ci, wr_fT ci, wr_nf ci) := Option.some.inj (h1.symm.trans c1)
  subst hr
  obtain ⟨hS, hfc, kC, hkC, hkind⟩ := hK.1 ci _ c1
  obtain ⟨cf, kf, fi, f, hi, hsl⟩ := hS k hk
  have hlay := hts _ (c2 _ (u_in_lay hk))
  unfold u_lay at hlay
  rw [if_pos hfin] at hlay
  have hst := (u_facts hfc hkC (u_lays hts c2 hk) hi).1
  have hcf : m.cls = cf := by
    obtain ⟨_, _, c', _, _, _, -, -, hf', -, -, -, hown2, -⟩ := Cond.laysFinal_spec hlay
    have e1 : c' = cf := by have := hi.symm.trans hf'; simp at this; exact this.1.symm
    rw [hdecl] at hown2
    rw [← e1]; exact Option.some.inj (X.1.2.2.2.2.1.symm.trans hown2)
  have h6 := u_fits hfc hkC hkind (Or.inr hlay) hi (c3 k hk) hn hfit
  refine W.putFinK X.1.1 X.1.2.1 X.1.2.2.2.2.1 (X.2.1.1.1 _ hl args) hi hst hcf (X.1.2.2.2.2.2.2.1.trans hin) (by rw [q2]; exact h6) q1 q3 (by rw [hsl]; exact k2_hasslot (q4 k hk)) rfl rfl hd fun H' e1 e2 e3 => ?_
  rw [hsl] at e1
  exact kk H' _ (wr_H_put hz X.2.2.2.1 hs hci hk hap q2 q3 q4 e1 e2 e3 hv ho hm) (X.2.2.2.2.1.put e2 e3 (hD.2 j _ he))
/-- behind a write into an array -/
theorem wr_H_ast {j t n : Nat} {H1 : Heap} (hz : ∀ j, j < 1000000 → Z.2.2.2.1 j = Z.2.2.1 + j) (hH : wr_H Z sh I L R H) (hs : sh[j]? = some (.inl (t, n)))
    (e1 : H1[Z.2.2.2.1 j]? = some (vp_cell (Z.2.1 t) (n, wr_ar Z t I' L' R' j))) (e2 : H1.size = H.size) (e3 : ∀ q, q ≠ Z.2.2.2.1 j → H1[q]? = H[q]?) (hn : ∀ i, i ≠ j → I' i = I i ∧ L' i = L i ∧ R' i = R i) : wr_H Z sh I' L' R' H1 := by
  obtain ⟨h1, h2, h3⟩ := hH
  have hjl : j < sh.length := (List.getElem?_eq_some_iff.mp hs).1
  refine ⟨⟨by rw [e2]; exact h1.1, fun k => by rw [(hn 1000300 (by omega)).1]; exact h1.2 k⟩, h2, ?_⟩
  have he := wr_wd_get (Z := Z) (I := I) (L := L) (R := R) hs
  have := h3.set (wr_wd_D hz h2) he (e := .inl (Z.2.1 t, n, wr_ar Z t I' L' R' j)) e1 e3
  rwa [wr_wd_set (Z := Z) (I' := I') (L' := L') (R' := R') (e := .inl (Z.2.1 t, n, wr_ar Z t I' L' R' j)) hs rfl rfl (fun i y hi => wr_ce_eq (hn i hi).1 (hn i hi).2.1 (hn i hi).2.2 y)] at this
end WrMem
section WrMemV
variable {l : Launch} {d : Nat} {M : wr_M} {pc : Nat} {ls : List (Option Value)} {st : List Value} {sh : List wr_S} {I : wr_TI} {L : wr_TL} {R : wr_TR} {mc ms : Nat} {Q : wr_TQ}
theorem wr_uI_ho (I : wr_TI) (L : wr_TL) (R : wr_TR) (j k : Nat) (x : Int32) : (∀ i : Nat, i ≠ k → wr_uI I j k x j i = I j i ∧ L j i = L j i ∧ R j i = R j i) ∧ ∀ i, i ≠ j → wr_uI I j k x i = I i ∧ L i = L i ∧ R i = R i := ⟨fun i h => ⟨by simp [wr_uI, h], rfl, rfl⟩, fun i h => ⟨wr_uI_ne h, rfl, rfl⟩⟩
theorem wr_uL_ho (I : wr_TI) (L : wr_TL) (R : wr_TR) (j k : Nat) (x : Int64) : (∀ i : Nat, i ≠ k → I j i = I j i ∧ wr_uL L j k x j i = L j i ∧ R j i = R j i) ∧ ∀ i, i ≠ j → I i = I i ∧ wr_uL L j k x i = L i ∧ R i = R i := ⟨fun i h => ⟨rfl, by simp [wr_uL, h], rfl⟩, fun i h => ⟨rfl, wr_uL_ne h, rfl⟩⟩
theorem wr_uR_ho (I : wr_TI) (L : wr_TL) (R : wr_TR) (j k : Nat) (x : Nat) : (∀ i : Nat, i ≠ k → I j i = I j i ∧ L j i = L j i ∧ wr_uR R j k x j i = R j i) ∧ ∀ i, i ≠ j → I i = I i ∧ L i = L i ∧ wr_uR R j k x i = R i := ⟨fun i h => ⟨rfl, rfl, by simp [wr_uR, h]⟩, fun i h => ⟨rfl, rfl, wr_uR_ne h⟩⟩
theorem wv_getI {j ci k idx : Nat} (hf : wr_FL M.1.cls idx ci k) (hd : decode M.2.1 pc = .ok (.getfield idx, 3)) (hk : wr_kd (wr_ty ci k) = 0) (hs : sh[j]? = some (.inr ci)) (k9 : wr_V l d M (pc + 3) ls (.int (I j k) :: st) sh I L R mc ms Q) : wr_V l d M pc ls (.ref j :: st) sh I L R mc ms Q := by
  intro Z p e Rm s m args below meth c H locs cells slots mT sT la X
  exact wr_get X hf hs (by rw [hk]; rfl) hd (k9 Z p e Rm s m args below meth c H locs cells slots mT sT la X)
theorem wv_getL {j ci k idx : Nat} (hf : wr_FL M.1.cls idx ci k) (hd : decode M.2.1 pc = .ok (.getfield idx, 3)) (hk : wr_kd (wr_ty ci k) = 1) (hs : sh[j]? = some (.inr ci)) (k9 : wr_V l d M (pc + 3) ls (.long (L j k) :: st) sh I L R mc ms Q) : wr_V l d M pc ls (.ref j :: st) sh I L R mc ms Q := by
  intro Z p e Rm s m args below meth c H locs cells slots mT sT la X
  exact wr_get X hf hs (by rw [hk]; rfl) hd (k9 Z p e Rm s m args below meth c H locs cells slots mT sT la X)
theorem wv_getR {j ci k idx r : Nat} (hf : wr_FL M.1.cls idx ci k) (hd : decode M.2.1 pc = .ok (.getfield idx, 3)) (hk : wr_kd (wr_ty ci k) = 2) (hs : sh[j]? = some (.inr ci)) (hr : R j k = r + 1) (k9 : wr_V l d M (pc + 3) ls (.ref r :: st) sh I L R mc ms Q) : wr_V l d M pc ls (.ref j :: st) sh I L R mc ms Q := by
  intro Z p e Rm s m args below meth c H locs cells slots mT sT la X
  exact wr_get X hf hs (by rw [hk]; show va_rf (wr_rf Z (R j k)) = _; rw [hr]; rfl) hd (k9 Z p e Rm s m args below meth c H locs cells slots mT sT la X)
theorem wv_putI {j ci k idx : Nat} {x : Int32} (hf : wr_FL M.1.cls idx ci k) (hd : decode M.2.1 pc = .ok (.putfield idx, 3)) (hk : wr_kd (wr_ty ci k) = 0) (hfin : (wr_fT ci k).2.2.2 = false) (hn : narrow (wr_ty ci k) (.int x) = .int x) (hfit : fits (wr_ty ci k) (.int x) = true) (hs : sh[j]? = some (.inr ci)) (k9 : wr_V l d M (pc + 3) ls st sh (wr_uI I j k x) L R mc ms Q) : wr_V l d M pc ls (.int x :: .ref j :: st) sh I L R mc ms Q := by
  intro Z p e Rm s m args below meth c H locs cells slots mT sT la X
  exact wr_put (v := .int x) (I' := wr_uI I j k x) (L' := L) (R' := R) X hf hs hfin hn hfit (by rw [hk]; simp [wr_fv, wr_uI]) (wr_uI_ho I L R j k x).1 (wr_uI_ho I L R j k x).2 hd (fun H1 locs1 h1 h2 => k9 Z p e Rm s m args below meth c H1 locs1 cells slots mT sT la ⟨X.1, X.2.1, X.2.2.1, h1, h2, X.2.2.2.2.2⟩)
theorem wv_putL {j ci k idx : Nat} {x : Int64} (hf : wr_FL M.1.cls idx ci k) (hd : decode M.2.1 pc = .ok (.putfield idx, 3)) (hk : wr_kd (wr_ty ci k) = 1) (hfin : (wr_fT ci k).2.2.2 = false) (hn : narrow (wr_ty ci k) (.long x) = .long x) (hfit : fits (wr_ty ci k) (.long x) = true) (hs : sh[j]? = some (.inr ci)) (k9 : wr_V l d M (pc + 3) ls st sh I (wr_uL L j k x) R mc ms Q) : wr_V l d M pc ls (.long x :: .ref j :: st) sh I L R mc ms Q := by
  intro Z p e Rm s m args below meth c H locs cells slots mT sT la X
  exact wr_put (v := .long x) (I' := I) (L' := wr_uL L j k x) (R' := R) X hf hs hfin hn hfit (by rw [hk]; simp [wr_fv, wr_uL]) (wr_uL_ho I L R j k x).1 (wr_uL_ho I L R j k x).2 hd (fun H1 locs1 h1 h2 => k9 Z p e Rm s m args below meth c H1 locs1 cells slots mT sT la ⟨X.1, X.2.1, X.2.2.1, h1, h2, X.2.2.2.2.2⟩)
theorem wr_fitR {ty : FieldType} (hk : wr_kd ty = 2) (a : Nat) : narrow ty (.ref a) = .ref a ∧ fits ty (.ref a) = true := by
  cases ty <;> simp [wr_kd] at hk <;> exact ⟨rfl, rfl⟩
theorem wv_putR {j ci k idx r : Nat} (hf : wr_FL M.1.cls idx ci k) (hd : decode M.2.1 pc = .ok (.putfield idx, 3)) (hk : wr_kd (wr_ty ci k) = 2) (hfin : (wr_fT ci k).2.2.2 = false) (hs : sh[j]? = some (.inr ci)) (k9 : wr_V l d M (pc + 3) ls st sh I L (wr_uR R j k (r + 1)) mc ms Q) : wr_V l d M pc ls (.ref r :: .ref j :: st) sh I L R mc ms Q := by
  intro Z p e Rm s m args below meth c H locs cells slots mT sT la X
  exact wr_put (v := .ref (Z.2.2.2.1 r)) (I' := I) (L' := L) (R' := wr_uR R j k (r + 1)) X hf hs hfin (wr_fitR hk _).1 (wr_fitR hk _).2 (by rw [hk]; simp [wr_fv, wr_uR, wr_rf, va_rf]) (wr_uR_ho I L R j k (r + 1)).1 (wr_uR_ho I L R j k (r + 1)).2 hd (fun H1 locs1 h1 h2 => k9 Z p e Rm s m args below meth c H1 locs1 cells slots mT sT la ⟨X.1, X.2.1, X.2.2.1, h1, h2, X.2.2.2.2.2⟩)
theorem wv_putFR {j ci k idx r : Nat} (hci : ci < 9) (hk0 : k < wr_nf ci) (hl : Cond.fieldLink M.1.cls idx (wr_fT ci k).1 (wr_fT ci k).2.1 (wr_fT ci k).2.2.1 ∈ wr_TG) (hd : decode M.2.1 pc = .ok (.putfield idx, 3)) (hk : wr_kd (wr_ty ci k) = 2) (hfin : (wr_fT ci k).2.2.2 = true) (hin : M.1.name = "<init>") (hdecl : (wr_fT ci k).1 = M.1.cls) (hs : sh[j]? = some (.inr ci)) (k9 : wr_V l d M (pc + 3) ls st sh I L (wr_uR R j k (r + 1)) mc ms Q) : wr_V l d M pc ls (.ref r :: .ref j :: st) sh I L R mc ms Q := by
  intro Z p e Rm s m args below meth c H locs cells slots mT sT la X
  exact wr_putF (v := .ref (Z.2.2.2.1 r)) (I' := I) (L' := L) (R' := wr_uR R j k (r + 1)) X hci hk0 hl hs hfin hin hdecl (wr_fitR hk _).1 (wr_fitR hk _).2 (by rw [hk]; simp [wr_fv, wr_uR, wr_rf, va_rf]) (wr_uR_ho I L R j k (r + 1)).1 (wr_uR_ho I L R j k (r + 1)).2 hd (fun H1 locs1 h1 h2 => k9 Z p e Rm s m args below meth c H1 locs1 cells slots mT sT la ⟨X.1, X.2.1, X.2.2.1, h1, h2, X.2.2.2.2.2⟩)
/-- an array's type among the types -/
theorem wr_tyat (Z : wr_Z) {t : Nat} (h : t < 5) : (wr_tys Z)[t]? = some (Z.2.1 t, wr_at t) := by
  match t, h with
  | 0, _ => rfl
  | 1, _ => rfl
  | 2, _ => rfl
  | 3, _ => rfl
  | 4, _ => rfl
theorem wv_iald {j n : Nat} {i : Int32} (hd : decode M.2.1 pc = .ok (.iaload, 1)) (hs : sh[j]? = some (.inl (0, n))) (hi : vp_in i n) (k9 : wr_V l d M (pc + 1) ls (.int (I j i.toNatClampNeg) :: st) sh I L R mc ms Q) : wr_V l d M pc ls (.int i :: .ref j :: st) sh I L R mc ms Q := by
  intro Z p e Rm s m args below meth c H locs cells slots mT sT la X
  exact va_iald (D := Z.1) (ws := wr_wd Z sh I L R) X.1.1 X.1.2.1 X.2.1.1.2.2.1 X.2.2.2.1.2.2 j 0 (wr_wd_get hs) (wr_tyat Z (by decide)) hi hd (k9 Z p e Rm s m args below meth c H locs cells slots mT sT la X)
theorem wv_bald {j n : Nat} {i : Int32} (hd : decode M.2.1 pc = .ok (.baload, 1)) (hs : sh[j]? = some (.inl (1, n))) (hi : vp_in i n) (k9 : wr_V l d M (pc + 1) ls (.int (I j i.toNatClampNeg) :: st) sh I L R mc ms Q) : wr_V l d M pc ls (.int i :: .ref j :: st) sh I L R mc ms Q := by
  intro Z p e Rm s m args below meth c H locs cells slots mT sT la X
  exact va_bald (D := Z.1) (ws := wr_wd Z sh I L R) X.1.1 X.1.2.1 X.2.1.1.2.2.1 X.2.2.2.1.2.2 j 1 (wr_wd_get hs) (wr_tyat Z (by decide)) hi hd (k9 Z p e Rm s m args below meth c H locs cells slots mT sT la X)
theorem wv_zald {j n : Nat} {i : Int32} (hd : decode M.2.1 pc = .ok (.baload, 1)) (hs : sh[j]? = some (.inl (2, n))) (hi : vp_in i n) (k9 : wr_V l d M (pc + 1) ls (.int (I j i.toNatClampNeg) :: st) sh I L R mc ms Q) : wr_V l d M pc ls (.int i :: .ref j :: st) sh I L R mc ms Q := by
  intro Z p e Rm s m args below meth c H locs cells slots mT sT la X
  exact va_zald (D := Z.1) (ws := wr_wd Z sh I L R) X.1.1 X.1.2.1 X.2.1.1.2.2.1 X.2.2.2.1.2.2 j 2 (wr_wd_get hs) (wr_tyat Z (by decide)) hi hd (k9 Z p e Rm s m args below meth c H locs cells slots mT sT la X)
theorem wv_lald {j n : Nat} {i : Int32} (hd : decode M.2.1 pc = .ok (.laload, 1)) (hs : sh[j]? = some (.inl (3, n))) (hi : vp_in i n) (k9 : wr_V l d M (pc + 1) ls (.long (L j i.toNatClampNeg) :: st) sh I L R mc ms Q) : wr_V l d M pc ls (.int i :: .ref j :: st) sh I L R mc ms Q := by
  intro Z p e Rm s m args below meth c H locs cells slots mT sT la X
  exact va_lald (D := Z.1) (ws := wr_wd Z sh I L R) X.1.1 X.1.2.1 X.2.1.1.2.2.1 X.2.2.2.1.2.2 j 3 (wr_wd_get hs) (wr_tyat Z (by decide)) hi hd (k9 Z p e Rm s m args below meth c H locs cells slots mT sT la X)
theorem wv_aald {j n r : Nat} {i : Int32} (hd : decode M.2.1 pc = .ok (.aaload, 1)) (hs : sh[j]? = some (.inl (4, n))) (hi : vp_in i n) (hr : R j i.toNatClampNeg = r + 1) (k9 : wr_V l d M (pc + 1) ls (.ref r :: st) sh I L R mc ms Q) : wr_V l d M pc ls (.int i :: .ref j :: st) sh I L R mc ms Q := by
  intro Z p e Rm s m args below meth c H locs cells slots mT sT la X
  refine va_aldq (D := Z.1) (ws := wr_wd Z sh I L R) X.1.1 X.1.2.1 X.2.1.1.2.2.1 X.2.2.2.1.2.2 j 4 (wr_wd_get hs) (wr_tyat Z (by decide)) hi hd ?_
  have := (k9 Z p e Rm s m args below meth c H locs cells slots mT sT la X)
  show W _ _ _ _ _ _ _ _ _ _ _ _ _ _ _ (F0 m (pc + 1) la (va_rf (wr_rf Z (R j i.toNatClampNeg)) :: _))
  rw [hr]
  exact this
theorem wv_alen {j t n : Nat} (hd : decode M.2.1 pc = .ok (.arraylength, 1)) (ht : t < 5) (hs : sh[j]? = some (.inl (t, n))) (k9 : wr_V l d M (pc + 1) ls (.int (Int32.ofNat n) :: st) sh I L R mc ms Q) : wr_V l d M pc ls (.ref j :: st) sh I L R mc ms Q := by
  intro Z p e Rm s m args below meth c H locs cells slots mT sT la X
  exact va_alen (D := Z.1) (ws := wr_wd Z sh I L R) X.1.1 X.1.2.1 X.2.1.1.2.2.1 X.2.2.2.1.2.2 j t (wr_wd_get hs) (wr_tyat Z ht) rfl hd (k9 Z p e Rm s m args below meth c H locs cells slots mT sT la X)
theorem wv_iast {j n : Nat} {i : Int32} {x : Int32} (hd : decode M.2.1 pc = .ok (.iastore, 1)) (hs : sh[j]? = some (.inl (0, n))) (hi : vp_in i n) (k9 : wr_V l d M (pc + 1) ls st sh (wr_uI I j i.toNatClampNeg x) (L) R mc ms Q) : wr_V l d M pc ls (.int x :: .int i :: .ref j :: st) sh I L R mc ms Q := by
  intro Z p e Rm s m args below meth c H locs cells slots mT sT la X
  have hD := wr_wd_D (sh := sh) (I := I) (L := L) (R := R) X.2.1.1.2.2.2 X.2.2.2.1.2.1
  refine W.iast X.1.1 X.1.2.1 (X.2.2.2.1.2.2 j _ (wr_wd_get hs)) ((X.2.1.1.2.2.1.2 0 _ (wr_tyat Z (by decide))).1 n (fun q => .int (I j q))) (fun q => by cases q) (by show ¬ (i < 0 ∨ (arrV _ _ _).slots.size ≤ _); rw [arrV_size]; exact hi) rfl rfl hd fun H1 e1 z oq => ?_
  refine k9 Z p e Rm s m args below meth c H1 _ cells slots mT sT la ⟨X.1, X.2.1, X.2.2.1, ?_, X.2.2.2.2.1.put z oq (hD.2 j _ (wr_wd_get hs)), X.2.2.2.2.2⟩
  refine wr_H_ast X.2.1.1.2.2.2 X.2.2.2.1 hs ?_ z oq (wr_uI_ho I L R j _ _).2
  rw [e1]
  show some (Cell.setSlot (vp_cell _ (n, .inl (I j))) _ _) = some (vp_cell _ (n, .inl (wr_uI I j i.toNatClampNeg x j)))
  rw [vp_cell_i, vp_cell_i, arrV_store]
  congr 2
  funext q
  by_cases hq : q = i.toNatClampNeg
  · subst hq
    simp [updV, wr_uI]
    try rfl
  · simp [updV, wr_uI, hq]
theorem wv_bast {j n : Nat} {i : Int32} {x : Int32} (hd : decode M.2.1 pc = .ok (.bastore, 1)) (hs : sh[j]? = some (.inl (1, n))) (hi : vp_in i n) (k9 : wr_V l d M (pc + 1) ls st sh (wr_uI I j i.toNatClampNeg (vp_nar .byte x)) (L) R mc ms Q) : wr_V l d M pc ls (.int x :: .int i :: .ref j :: st) sh I L R mc ms Q := by
  intro Z p e Rm s m args below meth c H locs cells slots mT sT la X
  have hD := wr_wd_D (sh := sh) (I := I) (L := L) (R := R) X.2.1.1.2.2.2 X.2.2.2.1.2.1
  refine W.bast X.1.1 X.1.2.1 (X.2.2.2.1.2.2 j _ (wr_wd_get hs)) ((X.2.1.1.2.2.1.2 1 _ (wr_tyat Z (by decide))).1 n (fun q => .int (I j q))) (fun q => by cases q) (by show ¬ (i < 0 ∨ (arrV _ _ _).slots.size ≤ _); rw [arrV_size]; exact hi) rfl rfl hd fun H1 e1 z oq => ?_
  refine k9 Z p e Rm s m args below meth c H1 _ cells slots mT sT la ⟨X.1, X.2.1, X.2.2.1, ?_, X.2.2.2.2.1.put z oq (hD.2 j _ (wr_wd_get hs)), X.2.2.2.2.2⟩
  refine wr_H_ast X.2.1.1.2.2.2 X.2.2.2.1 hs ?_ z oq (wr_uI_ho I L R j _ _).2
  rw [e1]
  show some (Cell.setSlot (vp_cell _ (n, .inl (I j))) _ _) = some (vp_cell _ (n, .inl (wr_uI I j i.toNatClampNeg (vp_nar .byte x) j)))
  rw [vp_cell_i, vp_cell_i, arrV_store]
  congr 2
  funext q
  by_cases hq : q = i.toNatClampNeg
  · subst hq
    simp [updV, wr_uI, vp_nar]
    try rfl
  · simp [updV, wr_uI, vp_nar, hq]
theorem wv_zast {j n : Nat} {i : Int32} {x : Int32} (hd : decode M.2.1 pc = .ok (.bastore, 1)) (hs : sh[j]? = some (.inl (2, n))) (hi : vp_in i n) (k9 : wr_V l d M (pc + 1) ls st sh (wr_uI I j i.toNatClampNeg (vp_nar .boolean x)) (L) R mc ms Q) : wr_V l d M pc ls (.int x :: .int i :: .ref j :: st) sh I L R mc ms Q := by
  intro Z p e Rm s m args below meth c H locs cells slots mT sT la X
  have hD := wr_wd_D (sh := sh) (I := I) (L := L) (R := R) X.2.1.1.2.2.2 X.2.2.2.1.2.1
  refine W.zast X.1.1 X.1.2.1 (X.2.2.2.1.2.2 j _ (wr_wd_get hs)) ((X.2.1.1.2.2.1.2 2 _ (wr_tyat Z (by decide))).1 n (fun q => .int (I j q))) (fun q => by cases q) (by show ¬ (i < 0 ∨ (arrV _ _ _).slots.size ≤ _); rw [arrV_size]; exact hi) rfl rfl hd fun H1 e1 z oq => ?_
  refine k9 Z p e Rm s m args below meth c H1 _ cells slots mT sT la ⟨X.1, X.2.1, X.2.2.1, ?_, X.2.2.2.2.1.put z oq (hD.2 j _ (wr_wd_get hs)), X.2.2.2.2.2⟩
  refine wr_H_ast X.2.1.1.2.2.2 X.2.2.2.1 hs ?_ z oq (wr_uI_ho I L R j _ _).2
  rw [e1]
  show some (Cell.setSlot (vp_cell _ (n, .inl (I j))) _ _) = some (vp_cell _ (n, .inl (wr_uI I j i.toNatClampNeg (vp_nar .boolean x) j)))
  rw [vp_cell_i, vp_cell_i, arrV_store]
  congr 2
  funext q
  by_cases hq : q = i.toNatClampNeg
  · subst hq
    simp [updV, wr_uI, vp_nar]
    try rfl
  · simp [updV, wr_uI, vp_nar, hq]
theorem wv_last {j n : Nat} {i : Int32} {x : Int64} (hd : decode M.2.1 pc = .ok (.lastore, 1)) (hs : sh[j]? = some (.inl (3, n))) (hi : vp_in i n) (k9 : wr_V l d M (pc + 1) ls st sh (I) (wr_uL L j i.toNatClampNeg x) R mc ms Q) : wr_V l d M pc ls (.long x :: .int i :: .ref j :: st) sh I L R mc ms Q := by
  intro Z p e Rm s m args below meth c H locs cells slots mT sT la X
  have hD := wr_wd_D (sh := sh) (I := I) (L := L) (R := R) X.2.1.1.2.2.2 X.2.2.2.1.2.1
  refine W.last X.1.1 X.1.2.1 (X.2.2.2.1.2.2 j _ (wr_wd_get hs)) ((X.2.1.1.2.2.1.2 3 _ (wr_tyat Z (by decide))).1 n (fun q => .long (L j q))) (fun q => by cases q) (by show ¬ (i < 0 ∨ (arrV _ _ _).slots.size ≤ _); rw [arrV_size]; exact hi) rfl rfl hd fun H1 e1 z oq => ?_
  refine k9 Z p e Rm s m args below meth c H1 _ cells slots mT sT la ⟨X.1, X.2.1, X.2.2.1, ?_, X.2.2.2.2.1.put z oq (hD.2 j _ (wr_wd_get hs)), X.2.2.2.2.2⟩
  refine wr_H_ast X.2.1.1.2.2.2 X.2.2.2.1 hs ?_ z oq (wr_uL_ho I L R j _ _).2
  rw [e1]
  show some (Cell.setSlot (vp_cell _ (n, .inr (.inl (L j)))) _ _) = some (vp_cell _ (n, .inr (.inl (wr_uL L j i.toNatClampNeg x j))))
  rw [vp_cell_l, vp_cell_l, arrV_store]
  congr 2
  funext q
  by_cases hq : q = i.toNatClampNeg
  · subst hq
    simp [updV, wr_uL]
    try rfl
  · simp [updV, wr_uL, hq]
end WrMemV
