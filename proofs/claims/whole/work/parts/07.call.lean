/-! calls and what is made -/
def wr_Pc (Z : wr_Z) (as : List Value) (sh : List wr_S) (I : wr_TI) (L : wr_TL) (R : wr_TR) : Array Value → State → Prop := fun v U => v = (as.map (wr_cv Z)).toArray ∧ wr_Tab Z U ∧ wr_H Z sh I L R U.heap
def wr_ent : List Value → List (Option Value)
  | [] => []
  | .long x :: t => some (.long x) :: none :: wr_ent t
  | .double x :: t => some (.double x) :: none :: wr_ent t
  | v :: t => some v :: wr_ent t
theorem wr_ent_en (Z : wr_Z) : ∀ (as : List Value) (b : Nat), wr_en Z (wr_ent as) b = lv_args b (as.map (wr_cv Z)) := by
  intro as
  induction as with
  | nil => intro b; rfl
  | cons v t ih =>
    intro b
    cases v <;> simp [wr_ent, wr_en, lv_args, ih, wr_cv, Value.category]
theorem wr_ent_len (Z : wr_Z) : ∀ (as : List Value), (lg_sl (as.map (wr_cv Z))).length = (wr_ent as).length := by
  intro as
  induction as with
  | nil => rfl
  | cons v t ih =>
    simp only [lg_sl, List.map_cons, List.flatMap_cons, List.length_append] at ih ⊢
    rw [ih]
    cases v <;> simp [wr_ent, wr_cv, Value.category] <;> omega
theorem wr_good {w : Cond} (h : w ∈ wr_TG) : (w.onTables && w.keeps) = true ∨ ∃ ty, w = .arrayClass ty := good_of_word (List.mem_filter.mp h).2
theorem wr_nestN {w : Cond} (h : w ∈ wr_TN) : wr_nest w = true := (List.mem_filter.mp h).2
theorem wr_Str.warm {Z : wr_Z} {s U : State} (hW : s.WarmedH U.vm) (hq : ∀ a : Nat, a < s.heap.size → ¬ wr_A Z a → U.heap[a]? = s.heap[a]?) (h : wr_Str Z s) : wr_Str Z U := by
  obtain ⟨h1, h2, h3, h4, h5, h6, h7, h8⟩ := h
  refine ⟨va_AO.moved hW.alike h1, (va_Z.moved hW.alike h2).kept hq, ?_, (vk_S.moved hW.alike h4).kept hq, fun i hi => (h5 i hi).warm hW, h6, h7, ?_⟩
  · rcases h3 with h3 | h3
    · exact Or.inl ((va_Z.moved hW.alike h3).kept hq)
    · exact Or.inr ((va_Z.moved hW.alike h3).kept hq)
  · obtain ⟨scr, g1, g2⟩ := va_X.moved hW.alike h8
    exact ⟨scr, by rw [hq _ (Array.getElem?_eq_some_iff.mp g1).1 (Nat.not_le.mpr h7)]; exact g1, g2⟩
theorem wr_Str.calling {Z : wr_Z} {U : State} {g : JFrame} {mk : MethodId} {a : Array Value} (h : wr_Str Z U) : wr_Str Z (U.calling g mk a) := by
  obtain ⟨h1, h2, h3, h4, h5, h6, h7, h8⟩ := h
  refine ⟨va_AO.moved (u := U) (U := U.calling g mk a) (Vm.Alike.refl U.vm) h1, va_Z.moved (u := U) (U := U.calling g mk a) (Vm.Alike.refl U.vm) h2, ?_, vk_S.moved (u := U) (U := U.calling g mk a) (Vm.Alike.refl U.vm) h4, fun i hi => vk_R.same (u := U) (U := U.calling g mk a) rfl (h5 i hi), h6, h7, va_X.moved (u := U) (U := U.calling g mk a) (Vm.Alike.refl U.vm) h8⟩
  rcases h3 with h3 | h3
  · exact Or.inl (va_Z.moved (u := U) (U := U.calling g mk a) (Vm.Alike.refl U.vm) h3)
  · exact Or.inr (va_Z.moved (u := U) (U := U.calling g mk a) (Vm.Alike.refl U.vm) h3)
theorem wr_Tab.warm {Z : wr_Z} {s U : State} (hW : s.WarmedH U.vm) (hq : ∀ a : Nat, a < s.heap.size → ¬ wr_A Z a → U.heap[a]? = s.heap[a]?) (h : wr_Tab Z s) : wr_Tab Z U := by
  obtain ⟨⟨h1, h2, h3, h4⟩, h5⟩ := h
  refine ⟨⟨fun w hw a => word_at hW (wr_good hw) (h1 w hw a), fun w hw => ?_, va_K.moved hW.alike h3, h4⟩, h5.warm hW hq⟩
  have hn := wr_nestN hw
  have hz := h2 w hw
  cases w <;> first | (simp [wr_nest] at hn; done) | exact va_Nw.warmF hW hz | exact va_Nw.warmM hW hz
theorem wr_Tab.calling {Z : wr_Z} {U : State} {g : JFrame} {mk : MethodId} {a : Array Value} (h : wr_Tab Z U) : wr_Tab Z (U.calling g mk a) := by
  obtain ⟨⟨h1, h2, h3, h4⟩, h5⟩ := h
  refine ⟨⟨fun w hw a' => ?_, fun w hw => ?_, va_K.moved (u := U) (U := U.calling g mk a) (Vm.Alike.refl U.vm) h3, h4⟩, h5.calling⟩
  · rcases wr_good hw with hg | ⟨ty, rfl⟩
    · exact va_tabs (by simp at hg; exact hg.1) (u := U) (U := U.calling g mk a) rfl (h1 w hw a')
    · exact h1 _ hw a'
  · exact va_Nw.same (by have := wr_nestN hw; cases w <;> first | rfl | simp [wr_nest] at this) (u := U) (U := U.calling g mk a) rfl (h2 w hw)
theorem wr_blind {Z : wr_Z} {as : List Value} {sh : List wr_S} {I : wr_TI} {L : wr_TL} {R : wr_TR} : FrameBlind (wr_Pc Z as sh I L R) := fun a U g mk h => ⟨h.1, h.2.1.calling, h.2.2⟩
theorem wr_met {l : Launch} {d : Nat} {M : wr_M} {as : List Value} {sh : List wr_S} {I : wr_TI} {L : wr_TL} {R : wr_TR} {mc ms : Nat} {Q : wr_TQ} (Z : wr_Z) (hM : plainName M.1.cls = true) (hlen : (wr_ent as).length ≤ M.2.2.1) (h : wr_V l d M 0 (wr_ent as) [] sh I L R mc ms Q) :
    Met l M.1 [.code M.1 M.2.1 M.2.2.1 M.2.2.2] { frames := d, cells := mc, slots := ms, locals := 64 * d } (wr_Pc Z as sh I L R) (wr_Qc Z Q) mc ms (wr_A Z) := by
  refine Met.ofW (cc := M.2.1) (maxL := M.2.2.1) (ret := M.2.2.2) hM rfl ?_
  intro p e s m args below meth c s₁ B hml hv
  obtain ⟨rfl, hT, hH⟩ := hv
  have hl := lv_entry (as.map (wr_cv Z)) (n := M.2.2.1) (by rw [wr_ent_len]; exact hlen)
  rw [lg_entry_eq]
  rw [← wr_ent_en] at hl
  exact h Z p e _ s m _ below meth c s.heap [] 0 0 mc ms _ ⟨⟨B.exec, B.bytes, B.returns, hml, findClass_of_methodNamed B.named, B.notSynchronized, (name_of_methodNamed B.named B.method).1, Nat.le_refl _, Nat.le_refl _⟩, hT, by rw [hH.1.1]; omega, hH, va_S.rf, hl, by omega, by omega, Nat.le_refl _, Nat.le_refl _⟩
/-- what the tables say of a method -/
def wr_Mok (M : wr_M) (n : Nat) : Prop := Cond.code M.1 M.2.1 M.2.2.1 M.2.2.2 ∈ wr_TG ∧ Cond.initialized M.1.cls ∈ wr_TG ∧ (M.1.cls ≠ "java/lang/invoke/MethodHandle" ∧ M.1.cls ≠ "java/lang/invoke/VarHandle") ∧ (parseMethodDescriptor M.1.desc).map (fun d => d.parameters.length) = some n ∧ plainName M.1.cls = true ∧ M.2.2.1 ≤ 45
def wr_MV (M : wr_M) (n : Nat) : Prop := wr_Mok M n ∧ Cond.instanceMethod M.1 ∈ wr_TG ∧ Cond.selects M.1.cls M.1 M.1 ∈ wr_TG
def wr_MS (M : wr_M) (n : Nat) : Prop := wr_Mok M n ∧ Cond.static M.1 ∈ wr_TG
def wr_MI (M : wr_M) (n : Nat) : Prop := wr_Mok M n ∧ Cond.instanceMethod M.1 ∈ wr_TG ∧ M.1.name = "<init>"
def wr_lk (own : String) (idx : Nat) (M : wr_M) : Prop := Cond.methodLink own idx M.1 ∈ wr_TG ∨ ∃ host, Cond.methodLinkNest own idx M.1 host ∈ wr_TN
section WrCall
variable {l : Launch} {d d' : Nat} {M M' : wr_M} {pc : Nat} {ls : List (Option Value)} {st st0 : List Value} {sh : List wr_S} {I : wr_TI} {L : wr_TL} {R : wr_TR} {mc ms mc' ms' : Nat} {Q Q' : wr_TQ} {as : List Value} {idx n : Nat}
theorem wr_catsum (Z : wr_Z) (st : List Value) : ((st.map (wr_cv Z)).map fun v => v.category).sum = (st.map fun v => v.category).sum := by
  rw [List.map_map]
  congr 1
  apply List.map_congr_left
  intro v _
  exact wr_cv_cat Z v
theorem wr_goes {Z : wr_Z} {p : Program} {e : Env} {Rm : Room} {s : State} {m : MethodId} {args : Array Value} {below : List Frame} {meth : Method} {c : Code} {H : Heap} {locs : List Loc} {cells slots mT sT : Nat} {la : Array Slot} {a : Array Value} (hm : mc' ≤ mc) (hs : ms' ≤ ms) (X : wr_X Z M d ls sh I L R mc ms p Rm s m meth c H locs cells slots mT sT la)
    (hr : va_Run p l e Rm s m args below meth c H locs cells slots mc' ms' (F0 m pc la st0) (st.map (wr_cv Z)) (wr_Qc Z Q' a) (wr_A Z))
    (kk : ∀ v sh' I' L' R', Q' v sh' I' L' R' → wr_V l d M (pc + 3) ls (v.toList ++ st) sh' I' L' R' (mc - mc') (ms - ms') Q) : W p l e Rm s m args below meth c H locs cells slots (MQ below (wr_Qc Z Q) args s mT sT (wr_A Z)) (F0 m pc la st0) := by
  intro T hT S
  obtain ⟨v, st₀, t, T', L0, h0, X', hL, e1, e2, ⟨⟨v', sh', I', L', R', hv, hq, hH⟩, hz, hk⟩, stp⟩ := hr T hT S
  rw [h0] at hz hk
  have hS := X.2.2.2.2.1
  have hv2 : v = v'.map (wr_cv Z) := by cases hv; rfl
  have b1 := X.2.2.2.2.2.2.1
  have b2 := X.2.2.2.2.2.2.2.1
  obtain ⟨t2, a1, c1⟩ := kk v' sh' I' L' R' hq Z p e Rm s m args below meth c T'.heap (locs ++ L0) (cells + mc') (slots + ms') mT sT la
    ⟨X.1, X.2.1, X.2.2.1, by rw [e1]; exact hH, ⟨Nat.le_trans hS.1 (by rw [e1]; exact hz), fun q h1 h2 => by rw [e1, hk q (Nat.lt_of_lt_of_le h1 hS.1) h2]; exact hS.2.1 q h1 h2, fun q hq => by
      rcases List.mem_append.mp hq with h | h
      · exact hS.2.2 q h
      · exact hL q h⟩, X.2.2.2.2.2.1, by omega, by omega, X.2.2.2.2.2.2.2.2.1, X.2.2.2.2.2.2.2.2.2⟩ T' rfl X'
  refine ⟨t2, stp t2 ?_, c1⟩
  have es : (v'.toList ++ st).map (wr_cv Z) = v.toList ++ st.map (wr_cv Z) := by
    rw [hv2]
    cases v' <;> simp
  rw [es] at a1
  exact a1
theorem wv_callV0 {j : Nat} (hw : wr_MV M' n) (hl : wr_lk M.1.cls idx M') (hd : decode M.2.1 pc = .ok (.invokevirtual idx, 3)) (hdd : d' + 1 ≤ d) (hm : mc' ≤ mc) (hs : ms' ≤ ms) (hn : as.length = n) (hre : ∀ (Z : wr_Z) (s : State) (H : Heap) (locs : List Loc), wr_Tab Z s → wr_H Z sh I L R H → va_S (wr_A Z) s.heap H locs → ∃ cellB : Cell, H[Z.2.2.2.1 j]? = some cellB ∧ cellB.vm.isStatics = false ∧ s.vm.findClass M'.1.cls = some cellB.cls) (hlen : (wr_ent (.ref j :: as)).length ≤ M'.2.2.1) (hst : st0 = as.reverse ++ .ref j :: st) (hcat : (st.map fun v => v.category).sum ≤ 8)
    (hV : wr_V l d' M' 0 (wr_ent (.ref j :: as)) [] sh I L R mc' ms' Q') (kk : ∀ v sh' I' L' R', Q' v sh' I' L' R' → wr_V l d M (pc + 3) ls (v.toList ++ st) sh' I' L' R' (mc - mc') (ms - ms') Q) : wr_V l d M pc ls st0 sh I L R mc ms Q := by
  intro Z p e Rm s m args below meth c H locs cells slots mT sT la X
  obtain ⟨⟨w1, w2, w3, w4, w5, w6⟩, w7, w8⟩ := hw
  have hts := X.2.1.1.1
  have hml := X.1.2.2.2.1
  have b1 := X.2.2.2.2.2.2.1
  have b2 := X.2.2.2.2.2.2.2.1
  have b3 := X.2.2.2.2.2.2.2.2.1
  have b4 := X.2.2.2.2.2.2.2.2.2
  have r1 := X.1.2.2.2.2.2.2.2.1
  have r2 := X.1.2.2.2.2.2.2.2.2
  have hM := wr_met Z w5 hlen hV
  have hrecv : ∃ cellB : Cell, H[Z.2.2.2.1 j]? = some cellB ∧ cellB.vm.isStatics = false ∧ s.vm.findClass M'.1.cls = some cellB.cls := hre Z s H locs X.2.1 X.2.2.2.1 X.2.2.2.2.1
  have hPre : PreV s H M'.1.cls (Z.2.2.2.1 j) (wr_Pc Z (.ref j :: as) sh I L R) (as.map (wr_cv Z)) := ⟨wr_blind, hrecv, fun U hU hW => ⟨rfl, X.2.1.warm hW (by rw [hU]; exact X.2.2.2.2.1.2.1), by rw [hU]; exact X.2.2.2.1⟩⟩
  have hstk : (F0 m pc la (st0.map (wr_cv Z))).stack = (as.map (wr_cv Z)).reverse ++ .ref (Z.2.2.2.1 j) :: st.map (wr_cv Z) := by
    show st0.map (wr_cv Z) = _
    rw [hst]
    simp [wr_cv]
  have hws : ∀ w ∈ ([.code M'.1 M'.2.1 M'.2.2.1 M'.2.2.2] : List Cond), ∀ (a' : Array Value) (U : State), s.WarmedH U.vm → w.before a' U = true := by
    intro w hw a' U hW
    rw [List.mem_singleton.mp hw]
    exact word_at hW (wr_good w1) (hts _ w1 args)
  have hsig : ∀ sig, parseMethodDescriptor M'.1.desc = some sig → n = sig.parameters.length := by
    intro sig h
    rw [h] at w4
    exact (Option.some.inj w4).symm
  rcases hl with hl | ⟨host, hl⟩
  · refine wr_goes hm hs X (va_runV (Ts := []) (own := M.1.cls) (C := M'.1.cls) (index := idx) (bytes := M'.2.1) (maxL := M'.2.2.1) (ret := M'.2.2.2) (n := n) (b := Z.2.2.2.1 j) (As := as.map (wr_cv Z)) (rest := st.map (wr_cv Z)) ⟨X.1.1, X.1.2.1, hml, X.1.2.2.2.2.1, fun _ h => (List.not_mem_nil h).elim⟩ hM ⟨⟨rfl, rfl, by show d' + 1 ≤ _; omega, by show 8 + (M'.2.2.1 + 11) + 64 * d' ≤ _; omega, hws, List.mem_singleton.mpr rfl, hts _ w1 args, hts _ w2 args, w3, hsig, hts _ hl args⟩, hts _ w7 args, hts _ w8 args⟩ hPre rfl (by rw [List.length_map]; exact hn) X.2.2.2.2.2.1.1 hstk (lv_room (by rw [wr_catsum]; exact hcat)) hd ⟨by omega, by omega⟩) kk
  · refine wr_goes hm hs X (va_runVN (Ts := []) (own := M.1.cls) (C := M'.1.cls) (host := host) (index := idx) (bytes := M'.2.1) (maxL := M'.2.2.1) (ret := M'.2.2.2) (n := n) (b := Z.2.2.2.1 j) (As := as.map (wr_cv Z)) (rest := st.map (wr_cv Z)) ⟨X.1.1, X.1.2.1, hml, X.1.2.2.2.2.1, fun _ h => (List.not_mem_nil h).elim⟩ hM ⟨⟨⟨rfl, rfl, by show d' + 1 ≤ _; omega, by show 8 + (M'.2.2.1 + 11) + 64 * d' ≤ _; omega, hws, List.mem_singleton.mpr rfl⟩, hts _ w1 args, hts _ w2 args, w3, hsig, va_Nw.use rfl (X.2.1.1.2.1 _ hl)⟩, hts _ w7 args, hts _ w8 args⟩ hPre rfl (by rw [List.length_map]; exact hn) X.2.2.2.2.2.1.1 hstk (lv_room (by rw [wr_catsum]; exact hcat)) hd ⟨by omega, by omega⟩) kk
theorem wv_callV {j ci : Nat} (hw : wr_MV M' n) (hl : wr_lk M.1.cls idx M') (hd : decode M.2.1 pc = .ok (.invokevirtual idx, 3)) (hdd : d' + 1 ≤ d) (hm : mc' ≤ mc) (hs : ms' ≤ ms) (hn : as.length = n) (hsh : sh[j]? = some (.inr ci)) (hC : wr_fC ci = M'.1.cls ∧ ci < 9) (hlen : (wr_ent (.ref j :: as)).length ≤ M'.2.2.1) (hst : st0 = as.reverse ++ .ref j :: st) (hcat : (st.map fun v => v.category).sum ≤ 8)
    (hV : wr_V l d' M' 0 (wr_ent (.ref j :: as)) [] sh I L R mc' ms' Q') (kk : ∀ v sh' I' L' R', Q' v sh' I' L' R' → wr_V l d M (pc + 3) ls (v.toList ++ st) sh' I' L' R' (mc - mc') (ms - ms') Q) : wr_V l d M pc ls st0 sh I L R mc ms Q :=
  wv_callV0 hw hl hd hdd hm hs hn (fun Z s H locs hT hH _ => by
    rw [← hC.1]
    exact va_recv hT.1.2.2.1 hH.2.2 (wr_ck hC.2).1 (wr_wd_get hsh)) hlen hst hcat hV kk
theorem wv_callS (hw : wr_MS M' n) (hl : wr_lk M.1.cls idx M') (hd : decode M.2.1 pc = .ok (.invokestatic idx, 3)) (hdd : d' + 1 ≤ d) (hm : mc' ≤ mc) (hs : ms' ≤ ms) (hn : as.length = n) (hlen : (wr_ent as).length ≤ M'.2.2.1) (hst : st0 = as.reverse ++ st) (hcat : (st.map fun v => v.category).sum ≤ 8)
    (hV : wr_V l d' M' 0 (wr_ent as) [] sh I L R mc' ms' Q') (kk : ∀ v sh' I' L' R', Q' v sh' I' L' R' → wr_V l d M (pc + 3) ls (v.toList ++ st) sh' I' L' R' (mc - mc') (ms - ms') Q) : wr_V l d M pc ls st0 sh I L R mc ms Q := by
  intro Z p e Rm s m args below meth c H locs cells slots mT sT la X
  obtain ⟨⟨w1, w2, w3, w4, w5, w6⟩, w7⟩ := hw
  have hts := X.2.1.1.1
  have hml := X.1.2.2.2.1
  have b1 := X.2.2.2.2.2.2.1
  have b2 := X.2.2.2.2.2.2.2.1
  have b3 := X.2.2.2.2.2.2.2.2.1
  have b4 := X.2.2.2.2.2.2.2.2.2
  have r1 := X.1.2.2.2.2.2.2.2.1
  have r2 := X.1.2.2.2.2.2.2.2.2
  have hM := wr_met Z w5 hlen hV
  have hPre : PreS s H (wr_Pc Z as sh I L R) (as.map (wr_cv Z)) := ⟨wr_blind, fun U hU hW => ⟨rfl, X.2.1.warm hW (by rw [hU]; exact X.2.2.2.2.1.2.1), by rw [hU]; exact X.2.2.2.1⟩⟩
  have hstk : (F0 m pc la (st0.map (wr_cv Z))).stack = (as.map (wr_cv Z)).reverse ++ st.map (wr_cv Z) := by
    show st0.map (wr_cv Z) = _
    rw [hst]
    simp
  have hws : ∀ w ∈ ([.code M'.1 M'.2.1 M'.2.2.1 M'.2.2.2] : List Cond), ∀ (a' : Array Value) (U : State), s.WarmedH U.vm → w.before a' U = true := by
    intro w hw a' U hW
    rw [List.mem_singleton.mp hw]
    exact word_at hW (wr_good w1) (hts _ w1 args)
  have hsig : ∀ sig, parseMethodDescriptor M'.1.desc = some sig → n = sig.parameters.length := by
    intro sig h
    rw [h] at w4
    exact (Option.some.inj w4).symm
  rcases hl with hl | ⟨host, hl⟩
  · refine wr_goes hm hs X (va_runS (Ts := []) (own := M.1.cls) (index := idx) (bytes := M'.2.1) (maxL := M'.2.2.1) (ret := M'.2.2.2) (n := n) (As := as.map (wr_cv Z)) (rest := st.map (wr_cv Z)) ⟨X.1.1, X.1.2.1, hml, X.1.2.2.2.2.1, fun _ h => (List.not_mem_nil h).elim⟩ hM ⟨⟨rfl, rfl, by show d' + 1 ≤ _; omega, by show 8 + (M'.2.2.1 + 11) + 64 * d' ≤ _; omega, hws, List.mem_singleton.mpr rfl, hts _ w1 args, hts _ w2 args, w3, hsig, hts _ hl args⟩, hts _ w7 args⟩ hPre rfl (by rw [List.length_map]; exact hn) X.2.2.2.2.2.1.1 hstk (lv_room (by rw [wr_catsum]; exact hcat)) hd ⟨by omega, by omega⟩) kk
  · refine wr_goes hm hs X (va_runSN (Ts := []) (own := M.1.cls) (host := host) (index := idx) (bytes := M'.2.1) (maxL := M'.2.2.1) (ret := M'.2.2.2) (n := n) (As := as.map (wr_cv Z)) (rest := st.map (wr_cv Z)) ⟨X.1.1, X.1.2.1, hml, X.1.2.2.2.2.1, fun _ h => (List.not_mem_nil h).elim⟩ hM ⟨⟨⟨rfl, rfl, by show d' + 1 ≤ _; omega, by show 8 + (M'.2.2.1 + 11) + 64 * d' ≤ _; omega, hws, List.mem_singleton.mpr rfl⟩, hts _ w1 args, hts _ w2 args, w3, hsig, va_Nw.use rfl (X.2.1.1.2.1 _ hl)⟩, hts _ w7 args, trivial⟩ hPre rfl (by rw [List.length_map]; exact hn) X.2.2.2.2.2.1.1 hstk (lv_room (by rw [wr_catsum]; exact hcat)) hd ⟨by omega, by omega⟩) kk
theorem wv_callI {j : Nat} (hw : wr_MI M' n) (hr : M'.2.2.2 = none) (hl : wr_lk M.1.cls idx M') (hd : decode M.2.1 pc = .ok (.invokespecial idx, 3)) (hdd : d' + 1 ≤ d) (hm : mc' ≤ mc) (hs : ms' ≤ ms) (hn : as.length = n) (hlen : (wr_ent (.ref j :: as)).length ≤ M'.2.2.1) (hst : st0 = as.reverse ++ .ref j :: st) (hcat : (st.map fun v => v.category).sum ≤ 8)
    (hV : wr_V l d' M' 0 (wr_ent (.ref j :: as)) [] sh I L R mc' ms' Q') (kk : ∀ v sh' I' L' R', Q' v sh' I' L' R' → wr_V l d M (pc + 3) ls (v.toList ++ st) sh' I' L' R' (mc - mc') (ms - ms') Q) : wr_V l d M pc ls st0 sh I L R mc ms Q := by
  intro Z p e Rm s m args below meth c H locs cells slots mT sT la X
  obtain ⟨⟨w1, w2, w3, w4, w5, w6⟩, w7, w8⟩ := hw
  have hts := X.2.1.1.1
  have hml := X.1.2.2.2.1
  have b1 := X.2.2.2.2.2.2.1
  have b2 := X.2.2.2.2.2.2.2.1
  have b3 := X.2.2.2.2.2.2.2.2.1
  have b4 := X.2.2.2.2.2.2.2.2.2
  have r1 := X.1.2.2.2.2.2.2.2.1
  have r2 := X.1.2.2.2.2.2.2.2.2
  have hM := wr_met Z w5 hlen hV
  rw [hr] at hM w1
  have hPre : PreS s H (wr_Pc Z (.ref j :: as) sh I L R) (.ref (Z.2.2.2.1 j) :: as.map (wr_cv Z)) := ⟨wr_blind, fun U hU hW => ⟨rfl, X.2.1.warm hW (by rw [hU]; exact X.2.2.2.2.1.2.1), by rw [hU]; exact X.2.2.2.1⟩⟩
  have hstk : (F0 m pc la (st0.map (wr_cv Z))).stack = (as.map (wr_cv Z)).reverse ++ .ref (Z.2.2.2.1 j) :: st.map (wr_cv Z) := by
    show st0.map (wr_cv Z) = _
    rw [hst]
    simp [wr_cv]
  have hws : ∀ w ∈ ([.code M'.1 M'.2.1 M'.2.2.1 none] : List Cond), ∀ (a' : Array Value) (U : State), s.WarmedH U.vm → w.before a' U = true := by
    intro w hw a' U hW
    rw [List.mem_singleton.mp hw]
    exact word_at hW (wr_good w1) (hts _ w1 args)
  have hsig : ∀ sig, parseMethodDescriptor M'.1.desc = some sig → n = sig.parameters.length := by
    intro sig h
    rw [h] at w4
    exact (Option.some.inj w4).symm
  rcases hl with hl | ⟨host, hl⟩
  · refine wr_goes hm hs X (va_runI (Ts := []) (own := M.1.cls) (index := idx) (bytes := M'.2.1) (maxL := M'.2.2.1) (n := n) (b := Z.2.2.2.1 j) (As := as.map (wr_cv Z)) (rest := st.map (wr_cv Z)) ⟨X.1.1, X.1.2.1, hml, X.1.2.2.2.2.1, fun _ h => (List.not_mem_nil h).elim⟩ hM ⟨⟨rfl, rfl, by show d' + 1 ≤ _; omega, by show 8 + (M'.2.2.1 + 11) + 64 * d' ≤ _; omega, hws, List.mem_singleton.mpr rfl, hts _ w1 args, hts _ w2 args, w3, hsig, hts _ hl args⟩, w8, hts _ w7 args⟩ hPre rfl (by rw [List.length_map]; exact hn) X.2.2.2.2.2.1.1 hstk (lv_room (by rw [wr_catsum]; exact hcat)) hd ⟨by omega, by omega⟩) kk
  · refine wr_goes hm hs X (va_runIN (Ts := []) (own := M.1.cls) (host := host) (index := idx) (bytes := M'.2.1) (maxL := M'.2.2.1) (n := n) (b := Z.2.2.2.1 j) (As := as.map (wr_cv Z)) (rest := st.map (wr_cv Z)) ⟨X.1.1, X.1.2.1, hml, X.1.2.2.2.2.1, fun _ h => (List.not_mem_nil h).elim⟩ hM ⟨⟨⟨rfl, rfl, by show d' + 1 ≤ _; omega, by show 8 + (M'.2.2.1 + 11) + 64 * d' ≤ _; omega, hws, List.mem_singleton.mpr rfl⟩, hts _ w1 args, hts _ w2 args, w3, hsig, va_Nw.use rfl (X.2.1.1.2.1 _ hl)⟩, w8, hts _ w7 args⟩ hPre rfl (by rw [List.length_map]; exact hn) X.2.2.2.2.2.1.1 hstk (lv_room (by rw [wr_catsum]; exact hcat)) hd ⟨by omega, by omega⟩) kk
end WrCall
