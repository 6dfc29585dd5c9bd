/-! what is made: objects, arrays; Object's constructor; a store into an array of references -/
theorem wr_wd_app (Z : wr_Z) (sh : List wr_S) (x : wr_S) (I : wr_TI) (L : wr_TL) (R : wr_TR) : wr_wd Z (sh ++ [x]) I L R = wr_wd Z sh I L R ++ [(Z.2.2.2.1 sh.length, wr_ce Z I L R x sh.length)] := by
  unfold wr_wd
  rw [List.length_append, List.length_singleton, List.range_succ, List.map_append]
  congr 1
  · apply List.map_congr_left
    intro j hj
    have := List.mem_range.mp hj
    simp only [List.getD_eq_getElem?_getD, List.getElem?_append_left this]
  · simp
theorem wr_H_app {Z : wr_Z} {sh : List wr_S} {x : wr_S} {I : wr_TI} {L : wr_TL} {R : wr_TR} {H H1 : Heap} (hz : ∀ j, j < 1000000 → Z.2.2.2.1 j = Z.2.2.1 + j) (hH : wr_H Z sh I L R H) (hl : sh.length < 1000000) (hat : va_at Z.1 vwCl (H.size, wr_ce Z I L R x sh.length) H1) (z1 : H1.size = H.size + 1) (o1 : ∀ q, q < H.size → H1[q]? = H[q]?) : wr_H Z (sh ++ [x]) I L R H1 := by
  obtain ⟨h1, h2, h3⟩ := hH
  refine ⟨⟨by rw [z1, h1.1, List.length_append, List.length_singleton]; omega, h1.2⟩, by rw [List.length_append, List.length_singleton]; omega, ?_⟩
  rw [wr_wd_app]
  refine (h3.kept (fun k q hq => o1 q.1 ((h3 k q hq).lt))).app (fun k q hq => ?_)
  have hk : k < 1 := (List.getElem?_eq_some_iff.mp hq).1
  rw [show k = 0 by omega] at hq
  cases hq
  rw [hz _ hl, ← h1.1]
  exact hat
theorem wr_S_app {A : Nat → Prop} {H0 H H1 : Heap} {locs : List Loc} (hS : va_S A H0 H locs) (z1 : H1.size = H.size + 1) (o1 : ∀ q, q < H.size → H1[q]? = H[q]?) : va_S A H0 H1 locs := ⟨Nat.le_trans hS.1 (by omega), fun x h1 h2 => (o1 x (Nat.lt_of_lt_of_le h1 hS.1)).trans (hS.2.1 x h1 h2), hS.2.2⟩
theorem wr_kd3 : ∀ ci, ci < 9 → ∀ k, k < wr_nf ci → wr_kd (wr_ty ci k) ≠ 3 := by decide +kernel
theorem wr_dv {Z : wr_Z} {I : wr_TI} {L : wr_TL} {R : wr_TR} {j ci k : Nat} (hci : ci < 9) (hk : k < wr_nf ci) (h0 : I j k = 0 ∧ L j k = 0 ∧ R j k = 0) : defaultValue (wr_ty ci k) = vp_V (wr_fs Z ci I L R j) k := by
  have h3 := wr_kd3 ci hci k hk
  unfold vp_V
  rw [List.getD_eq_getElem?_getD, wr_fs_get hk]
  show _ = wr_fv Z I L R j (wr_kd (wr_ty ci k)) k
  obtain ⟨e1, e2, e3⟩ := h0
  generalize wr_ty ci k = ty at h3 ⊢
  cases ty <;> simp [wr_kd] at h3 <;> simp [wr_kd, wr_fv, wr_rf, va_rf, defaultValue, e1, e2, e3]
section WrNew
variable {l : Launch} {d : Nat} {M : wr_M} {pc : Nat} {ls : List (Option Value)} {st : List Value} {sh sh' : List wr_S} {I : wr_TI} {L : wr_TL} {R : wr_TR} {mc ms mc' ms' : Nat} {Q : wr_TQ}
theorem wv_new {ci idx j : Nat} (hci : ci < 9) (hcl : Cond.classLink M.1.cls idx (wr_fC ci) ∈ wr_TG) (hin : Cond.instantiable (wr_fC ci) (wr_nf ci) ∈ wr_TG) (hini : Cond.initialized (wr_fC ci) ∈ wr_TG) (hd : decode M.2.1 pc = .ok (.new idx, 3)) (hj : sh.length = j) (hl : j < 1000) (hs' : sh ++ [.inr ci] = sh') (h0 : ∀ k, I j k = 0 ∧ L j k = 0 ∧ R j k = 0) (hm : mc' + 1 = mc) (hs : ms' + wr_nf ci = ms)
    (k9 : wr_V l d M (pc + 3) ls (.ref j :: st) sh' I L R mc' ms' Q) : wr_V l d M pc ls st sh I L R mc ms Q := by
  intro Z p e Rm s m args below meth c H locs cells slots mT sT la X
  subst hj
  subst hs'
  obtain ⟨c1, c2, c3, c4⟩ := wr_ck hci
  have hts : ∀ w ∈ wr_TG, w.before args s = true := fun w h => X.2.1.1.1 w h args
  have hKn := X.2.1.1.2.2.1.1 ci _ c1
  have hz := X.2.1.1.2.2.2
  have hH := X.2.2.2.1
  have b1 := X.2.2.2.2.2.2.1
  have b2 := X.2.2.2.2.2.2.2.1
  have b3 := X.2.2.2.2.2.2.2.2.1
  have b4 := X.2.2.2.2.2.2.2.2.2
  refine W.newcK X.1.1 X.1.2.1 X.1.2.2.2.2.1 (hts _ hcl) (hts _ hin) (hts _ hini) rfl hd (by omega) (by omega) hKn.2.1 rfl fun H1 kC hkC e1 z1 o1 => ?_
  have hH1 : wr_H Z (sh ++ [.inr ci]) I L R H1 := wr_H_app hz hH (by omega) ⟨_, c1, (u_born (wr_ty ci) hts c2 hKn hkC e1 c3).to (fun k hk => wr_dv hci hk (h0 k))⟩ z1 o1
  have hh := k9 Z p e Rm s m args below meth c H1 locs (cells + 1) (slots + wr_nf ci) mT sT la ⟨X.1, X.2.1, X.2.2.1, hH1, wr_S_app X.2.2.2.2.1 z1 o1, X.2.2.2.2.2.1, by omega, by omega, b3, b4⟩
  have ea : Z.2.2.2.1 sh.length = H.size := by rw [hz _ (by omega), hH.1.1]
  have es : (Value.ref sh.length :: st).map (wr_cv Z) = .ref H.size :: st.map (wr_cv Z) := by rw [← ea]; rfl
  rw [es] at hh
  exact hh
theorem wr_are {s : State} {ty : FieldType} {cA cB : ClassId} (h : va_RA s cB ty) (h2 : s.vm.findClass ("[" ++ ty.toString) = some cA) : cA = cB := by
  have h3 : s.vm.findClass ("[" ++ ty.toString) = some cB := by
    cases ty with
    | object C => obtain ⟨_, _, _, _, _, h4⟩ := h; exact h4
    | _ => exact h
  rw [h3] at h2
  exact (Option.some.inj h2).symm
theorem wr_arz {Z : wr_Z} {I : wr_TI} {L : wr_TL} {R : wr_TR} {t n j : Nat} {cA : ClassId} (ht : t < 4) (h0 : ∀ k, I j k = 0 ∧ L j k = 0 ∧ R j k = 0) : arrV cA n (fun _ => defaultValue (wr_at t)) = vp_cell cA (n, wr_ar Z t I L R j) := by
  match t, ht with
  | 0, _ => show _ = arrV cA n (fun k => .int (I j k)); congr 1; funext k; rw [(h0 k).1]; rfl
  | 1, _ => show _ = arrV cA n (fun k => .int (I j k)); congr 1; funext k; rw [(h0 k).1]; rfl
  | 2, _ => show _ = arrV cA n (fun k => .int (I j k)); congr 1; funext k; rw [(h0 k).1]; rfl
  | 3, _ => show _ = arrV cA n (fun k => .long (L j k)); congr 1; funext k; rw [(h0 k).2.1]; rfl
theorem wv_newa {t n j : Nat} {x : Int32} {atype : ArrayType} (ht : t < 4) (hty : newarray.typeOf atype = wr_at t) (harr : Cond.arrayClass (wr_at t) ∈ wr_TG) (hd : decode M.2.1 pc = .ok (.newarray atype, 2)) (hx : x = nI n) (hn : n ≤ 1000) (hj : sh.length = j) (hl : j < 1000) (hs' : sh ++ [.inl (t, n)] = sh') (h0 : ∀ k, I j k = 0 ∧ L j k = 0 ∧ R j k = 0) (hm : mc' + 1 = mc) (hs : ms' + n = ms)
    (k9 : wr_V l d M (pc + 2) ls (.ref j :: st) sh' I L R mc' ms' Q) : wr_V l d M pc ls (.int x :: st) sh I L R mc ms Q := by
  intro Z p e Rm s m args below meth c H locs cells slots mT sT la X
  subst hj
  subst hs'
  subst hx
  have hts : ∀ w ∈ wr_TG, w.before args s = true := fun w h => X.2.1.1.1 w h args
  have hz := X.2.1.1.2.2.2
  have hH := X.2.2.2.1
  have b1 := X.2.2.2.2.2.2.1
  have b2 := X.2.2.2.2.2.2.2.1
  have b3 := X.2.2.2.2.2.2.2.2.1
  have b4 := X.2.2.2.2.2.2.2.2.2
  have hcb : componentBytes (wr_at t) ≤ 8 := by
    match t, ht with
    | 0, _ => decide
    | 1, _ => decide
    | 2, _ => decide
    | 3, _ => decide
  refine va_newaK (N := n) X.1.1 X.1.2.1 (by rw [hty]; exact hts _ harr) rfl hd rfl (nI_pos (by omega)) (nI_clamp (by omega)) (by rw [hty]; have := Nat.mul_le_mul hn hcb; omega) (by omega) (by omega) rfl fun H1 cA e1 z1 o1 hAr hNm => ?_
  rw [hty] at e1 hNm
  have hcA := wr_are (X.2.1.1.2.2.1.2 t _ (wr_tyat Z (by omega))).2 hNm
  subst hcA
  have hH1 : wr_H Z (sh ++ [.inl (t, n)]) I L R H1 := wr_H_app hz hH (by omega) (show H1[H.size]? = some (vp_cell (Z.2.1 t) (n, wr_ar Z t I L R sh.length)) by rw [← wr_arz ht h0]; exact e1) z1 o1
  have hh := k9 Z p e Rm s m args below meth c H1 locs (cells + 1) (slots + n) mT sT la ⟨X.1, X.2.1, X.2.2.1, hH1, wr_S_app X.2.2.2.2.1 z1 o1, X.2.2.2.2.2.1, by omega, by omega, b3, b4⟩
  have ea : Z.2.2.2.1 sh.length = H.size := by rw [hz _ (by omega), hH.1.1]
  have es : (Value.ref sh.length :: st).map (wr_cv Z) = .ref H.size :: st.map (wr_cv Z) := by rw [← ea]; rfl
  rw [es] at hh
  exact hh
theorem wv_anew {n j idx : Nat} {x : Int32} (hcl : Cond.classLink M.1.cls idx RX0 ∈ wr_TG) (hd : decode M.2.1 pc = .ok (.anewarray idx, 3)) (hx : x = nI n) (hn : n ≤ 1000) (hj : sh.length = j) (hl : j < 1000) (hs' : sh ++ [.inl (4, n)] = sh') (h0 : ∀ k, I j k = 0 ∧ L j k = 0 ∧ R j k = 0) (hm : mc' + 1 = mc) (hs : ms' + n = ms)
    (k9 : wr_V l d M (pc + 3) ls (.ref j :: st) sh' I L R mc' ms' Q) : wr_V l d M pc ls (.int x :: st) sh I L R mc ms Q := by
  intro Z p e Rm s m args below meth c H locs cells slots mT sT la X
  subst hj
  subst hs'
  subst hx
  have hts : ∀ w ∈ wr_TG, w.before args s = true := fun w h => X.2.1.1.1 w h args
  have hz := X.2.1.1.2.2.2
  have hH := X.2.2.2.1
  have b1 := X.2.2.2.2.2.2.1
  have b2 := X.2.2.2.2.2.2.2.1
  have b3 := X.2.2.2.2.2.2.2.2.1
  have b4 := X.2.2.2.2.2.2.2.2.2
  have hcn : (nI n).toNatClampNeg = n := nI_clamp (by omega)
  refine W.anew X.1.1 X.1.2.1 X.1.2.2.2.2.1 (hts _ hcl) (va_AO.use X.2.1.2.1) rfl hd rfl (nI_pos (by omega)) (by rw [hcn]; omega) (by omega) (by rw [hcn]; omega) fun cA kA comp f1 f2 f3 f4 => ?_
  rw [hcn]
  obtain ⟨-, -, -, -, -, f5⟩ := (X.2.1.1.2.2.1.2 4 _ (wr_tyat Z (by omega))).2
  have hcA : cA = Z.2.1 4 := Option.some.inj (f1.symm.trans f5)
  subst hcA
  generalize hH1e : H.push ({ cls := Z.2.1 4, slots := Array.replicate n .null, vm := .none } : Cell) = H1
  have z1 : H1.size = H.size + 1 := by rw [← hH1e, Array.size_push]
  have e1 : H1[H.size]? = some (arrV (Z.2.1 4) n (fun _ => .null)) := by rw [← hH1e, Array.getElem?_push_size, ← arrV_new]
  have o1 : ∀ q : Nat, q < H.size → H1[q]? = H[q]? := fun q hq => by rw [← hH1e, Array.getElem?_push, if_neg (Nat.ne_of_lt hq)]
  have hH1 : wr_H Z (sh ++ [.inl (4, n)]) I L R H1 := wr_H_app hz hH (by omega) (show H1[H.size]? = some (vp_cell (Z.2.1 4) (n, wr_ar Z 4 I L R sh.length)) by
    rw [e1]
    show some (arrV (Z.2.1 4) n (fun _ => .null)) = some (arrV (Z.2.1 4) n (fun k => va_rf (wr_rf Z (R sh.length k))))
    congr 2
    funext k
    rw [(h0 k).2.2]
    rfl) z1 o1
  have hh := k9 Z p e Rm s m args below meth c H1 locs (cells + 1) (slots + n) mT sT la ⟨X.1, X.2.1, X.2.2.1, hH1, wr_S_app X.2.2.2.2.1 z1 o1, X.2.2.2.2.2.1, by omega, by omega, b3, b4⟩
  have ea : Z.2.2.2.1 sh.length = H.size := by rw [hz _ (by omega), hH.1.1]
  have es : (Value.ref sh.length :: st).map (wr_cv Z) = .ref H.size :: st.map (wr_cv Z) := by rw [← ea]; rfl
  rw [es] at hh
  exact hh
theorem wv_aast {j v n k : Nat} (hd : decode M.2.1 pc = .ok (.aastore, 1)) (hs : sh[j]? = some (.inl (4, n))) (hv : sh[v]? = some (.inr 0)) (hk : k < n) (hn : n < 1000)
    (k9 : wr_V l d M (pc + 1) ls st sh I L (wr_uR R j k (v + 1)) mc ms Q) : wr_V l d M pc ls (.ref v :: .int (nI k) :: .ref j :: st) sh I L R mc ms Q := by
  intro Z p e Rm s m args below meth c H locs cells slots mT sT la X
  have hz := X.2.1.1.2.2.2
  have hK := X.2.1.1.2.2.1
  have hP := X.2.2.2.1.2.2
  have hD := wr_wd_D (sh := sh) (I := I) (L := L) (R := R) hz X.2.2.2.1.2.1
  have hcn : (nI k).toNatClampNeg = k := nI_clamp (by omega)
  have ha := wr_wd_get (Z := Z) (I := I) (L := L) (R := R) hs
  obtain ⟨r', hr', cellV, g1, g2, g3, -⟩ := hP v _ (wr_wd_get (Z := Z) (I := I) (L := L) (R := R) hv)
  have hcls := (hK.1 0 _ rfl).2
  obtain ⟨kA, comp, k1, k2, k3, -⟩ := (hK.2 4 _ (wr_tyat Z (by decide))).2
  have hcomp : comp = Z.1.1 0 := Option.some.inj (k3.symm.trans hcls.1)
  subst hcomp
  obtain ⟨kC, hkC, -⟩ := hcls.2
  have hat : H[Z.2.2.2.1 j]? = some (arrV (Z.2.1 4) n (fun i => va_rf (wr_rf Z (R j i)))) := hP j _ ha
  refine W.aast X.1.1 X.1.2.1 hat (fun q h => by cases h) (fun h => by cases h) k1 k2 rfl hkC ⟨nI_pos (by omega), by rw [arrV_size, hcn]; exact hk⟩ g1 (fun q h => by rw [g3] at h; cases h) (by rw [g2]; exact hkC) (by rw [g2]; exact va_assign hcls) rfl rfl hd fun H1 e2 z oq => ?_
  rw [hcn, arrV_store] at e2
  have hH1 : wr_H Z sh I L (wr_uR R j k (v + 1)) H1 := wr_H_ast (I' := I) (L' := L) (R' := wr_uR R j k (v + 1)) hz X.2.2.2.1 hs (by
    rw [e2]
    show some (arrV (Z.2.1 4) n _) = some (arrV (Z.2.1 4) n (fun i => va_rf (wr_rf Z (wr_uR R j k (v + 1) j i))))
    congr 2
    funext q
    by_cases hq : q = k
    · subst hq; simp [updV, wr_uR, wr_rf, va_rf]
    · simp [updV, wr_uR, hq]) z oq (wr_uR_ho I L R j k (v + 1)).2
  exact k9 Z p e Rm s m args below meth c H1 _ cells slots mT sT la ⟨X.1, X.2.1, X.2.2.1, hH1, X.2.2.2.2.1.put z oq (hD.2 j _ ha), X.2.2.2.2.2⟩
theorem wv_oinit {idx r : Nat} (hl : Cond.methodLink M.1.cls idx Lib.objectInit ∈ wr_TG) (hi : Cond.instanceMethod Lib.objectInit ∈ wr_TG) (hc : Cond.code Lib.objectInit ⟨#[0xb1]⟩ 1 none ∈ wr_TG) (hd : decode M.2.1 pc = .ok (.invokespecial idx, 3)) (hd1 : 1 ≤ d) (hcat : (st.map fun v => v.category).sum ≤ 8)
    (k9 : wr_V l d M (pc + 3) ls st sh I L R mc ms Q) : wr_V l d M pc ls (.ref r :: st) sh I L R mc ms Q := by
  intro Z p e Rm s m args below meth c H locs cells slots mT sT la X
  have hts : ∀ w ∈ wr_TG, w.before args s = true := fun w h => X.2.1.1.1 w h args
  have r1 := X.1.2.2.2.2.2.2.2.1
  have r2 := X.1.2.2.2.2.2.2.2.2
  refine W.objInit X.1.1 X.1.2.1 X.1.2.2.2.2.1 (hts _ hl) (hts _ hi) (hts _ hc) (g := F0 m pc la ((Value.ref r :: st).map (wr_cv Z))) rfl (X.2.2.2.2.2.1.1.trans X.1.2.2.2.1.symm) (rest := st.map (wr_cv Z)) rfl hd (by omega) ?_ (k9 Z p e Rm s m args below meth c H locs cells slots mT sT la X)
  have := lv_room (m := m) (pc := pc) (ls := la) (rest := (Value.ref r :: st).map (wr_cv Z)) (st := st.map (wr_cv Z)) (by rw [wr_catsum]; exact hcat)
  omega
end WrNew
