/-! THE ABSTRACT MACHINE: wr_V says that the method M, from pc with these locals and this stack over this memory, returns with Q -/
/-- the words of the reader: their places in the pool, their texts, lengths, bytes -/
def wr_sp (i : Nat) : Nat := [54, 63, 65, 67, 98, 72, 118, 77, 124, 128, 132, 136, 148, 168, 198, 200, 202, 204, 206, 208, 166, 157].getD i 0
def wr_sx (i : Nat) : String := ["seats", "dear", "gap", "few", "to", "slack", "by", "law", "up", "rest", "sees", "shy", "when", "not", "left", "right", "asked", "rose", "ups", "tenth", "and", "or"].getD i ""
def wr_sl : List Nat := [5, 4, 3, 3, 2, 5, 2, 3, 2, 4, 4, 3, 4, 3, 4, 5, 5, 4, 3, 5, 3, 2]
def wr_sb : List (List Int32) := [[115, 101, 97, 116, 115], [100, 101, 97, 114], [103, 97, 112], [102, 101, 119], [116, 111], [115, 108, 97, 99, 107], [98, 121], [108, 97, 119], [117, 112], [114, 101, 115, 116], [115, 101, 101, 115], [115, 104, 121], [119, 104, 101, 110], [110, 111, 116], [108, 101, 102, 116], [114, 105, 103, 104, 116], [97, 115, 107, 101, 100], [114, 111, 115, 101], [117, 112, 115], [116, 101, 110, 116, 104], [97, 110, 100], [111, 114]]
/-- strings stand at the references 1000000 + i, their rows at 1000100 + i, what the index check would throw with at 1000200, the script at 1000300 -/
def wr_Str (Z : wr_Z) (U : State) : Prop := va_AO RX0 U ∧ va_Z "java/lang/String" "COMPACT_STRINGS" "Z" (.int 1) (wr_A Z) U U.heap ∧
  (va_Z "jdk/internal/util/Preconditions" "SIOOBE_FORMATTER" "Ljava/util/function/BiFunction;" .null (wr_A Z) U U.heap ∨ va_Z "jdk/internal/util/Preconditions" "SIOOBE_FORMATTER" "Ljava/util/function/BiFunction;" (.ref (Z.2.2.2.1 1000200)) (wr_A Z) U U.heap) ∧
  vk_S 22 wr_sl wr_sb (fun i => Z.2.2.2.1 (1000000 + i)) (fun i => Z.2.2.2.1 (1000100 + i)) (wr_A Z) U U.heap ∧ (∀ i, i < 22 → vk_R RX4 (wr_sp i) (wr_sx i) (Z.2.2.2.1 (1000000 + i)) U) ∧
  Z.2.2.2.2 0 ≤ 3072 ∧ Z.2.2.2.1 1000300 < Z.2.2.1 ∧ va_X (Z.2.2.2.1 1000300) (Z.2.2.2.2 0) (fun j => Int32.ofNat (Z.2.2.2.2 (j + 1))) U U.heap
def wr_Tab (Z : wr_Z) (U : State) : Prop := wr_Tab0 Z U ∧ wr_Str Z U
def wr_C (M : wr_M) (d : Nat) (p : Program) (Rm : Room) (s : State) (m : MethodId) (meth : Method) (c : Code) : Prop :=
  p.tables.exec = Jvm.exec ∧ c.code = M.2.1 ∧ meth.sig.returnType = M.2.2.2 ∧ c.maxLocals = M.2.2.1 ∧ s.vm.findClass M.1.cls = some m.cls ∧ meth.locks = false ∧ meth.name = M.1.name ∧ d ≤ Rm.frames ∧ 64 * d ≤ Rm.locals
def wr_Qc (Z : wr_Z) (Q : wr_TQ) : Array Value → State → Outcome → State → Prop := fun _ st oc t => (∃ (v : Option Value) (sh : List wr_S) (I : wr_TI) (L : wr_TL) (R : wr_TR), oc = .returned (v.map (wr_cv Z)) ∧ Q v sh I L R ∧ wr_H Z sh I L R t.heap) ∧ va_F (wr_A Z) st t
/-- the machine stands at this point -/
def wr_X (Z : wr_Z) (M : wr_M) (d : Nat) (ls : List (Option Value)) (sh : List wr_S) (I : wr_TI) (L : wr_TL) (R : wr_TR) (mc ms : Nat) (p : Program) (Rm : Room) (s : State) (m : MethodId) (meth : Method) (c : Code) (H : Heap) (locs : List Loc) (cells slots mT sT : Nat) (la : Array Slot) : Prop :=
  wr_C M d p Rm s m meth c ∧ wr_Tab Z s ∧ Z.2.2.1 ≤ s.heap.size ∧ wr_H Z sh I L R H ∧ va_S (wr_A Z) s.heap H locs ∧ lv_has la M.2.2.1 (wr_en Z ls 0) ∧ cells + mc ≤ mT ∧ slots + ms ≤ sT ∧ mT ≤ Rm.cells ∧ sT ≤ Rm.slots
def wr_V (l : Launch) (d : Nat) (M : wr_M) (pc : Nat) (ls : List (Option Value)) (st : List Value) (sh : List wr_S) (I : wr_TI) (L : wr_TL) (R : wr_TR) (mc ms : Nat) (Q : wr_TQ) : Prop :=
  ∀ (Z : wr_Z) (p : Program) (e : Env) (Rm : Room) (s : State) (m : MethodId) (args : Array Value) (below : List Frame) (meth : Method) (c : Code) (H : Heap) (locs : List Loc) (cells slots mT sT : Nat) (la : Array Slot),
    wr_X Z M d ls sh I L R mc ms p Rm s m meth c H locs cells slots mT sT la → W p l e Rm s m args below meth c H locs cells slots (MQ below (wr_Qc Z Q) args s mT sT (wr_A Z)) (F0 m pc la (st.map (wr_cv Z)))
section WrRules
variable {l : Launch} {d : Nat} {M : wr_M} {pc : Nat} {ls : List (Option Value)} {st : List Value} {sh : List wr_S} {I : wr_TI} {L : wr_TL} {R : wr_TR} {mc ms : Nat} {Q : wr_TQ}
theorem wr_V.mono {d' : Nat} (h : d ≤ d') (k : wr_V l d M pc ls st sh I L R mc ms Q) : wr_V l d' M pc ls st sh I L R mc ms Q := by
  intro Z p e Rm s m args below meth c H locs cells slots mT sT la X
  obtain ⟨⟨h1, h2, h3, h4, h5, h6, h7, h8, h9⟩, X⟩ := X
  exact k Z p e Rm s m args below meth c H locs cells slots mT sT la ⟨⟨h1, h2, h3, h4, h5, h6, h7, by omega, by omega⟩, X⟩
theorem wr_V.imp {Q' : wr_TQ} (k : wr_V l d M pc ls st sh I L R mc ms Q') (h : ∀ v sh I L R, Q' v sh I L R → Q v sh I L R) : wr_V l d M pc ls st sh I L R mc ms Q := by
  intro Z p e Rm s m args below meth c H locs cells slots mT sT la X T hT S
  obtain ⟨t, a1, o, b1, b2, ⟨⟨v, sh', I', L', R', c1, c2, c3⟩, c4⟩, b4⟩ := k Z p e Rm s m args below meth c H locs cells slots mT sT la X T hT S
  exact ⟨t, a1, o, b1, b2, ⟨⟨v, sh', I', L', R', c1, h _ _ _ _ _ c2, c3⟩, c4⟩, b4⟩
/-- fewer known locals -/
theorem wv_ls {ls' : List (Option Value)} (h : ∀ (i : Nat) (v : Value), ls'[i]? = some (some v) → ls[i]? = some (some v)) (k : wr_V l d M pc ls' st sh I L R mc ms Q) : wr_V l d M pc ls st sh I L R mc ms Q := by
  intro Z p e Rm s m args below meth c H locs cells slots mT sT la X
  obtain ⟨X1, X2, X3, X4, X5, X6, X7⟩ := X
  refine k Z p e Rm s m args below meth c H locs cells slots mT sT la ⟨X1, X2, X3, X4, X5, ⟨X6.1, X6.2.1, fun q hq => ?_⟩, X7⟩
  obtain ⟨i, v, rfl, hi⟩ := wr_en_inv hq
  exact X6.2.2 _ (wr_en_mem (h i v hi))
theorem wv_iconst {n : Int} {v : Int32} (hd : decode M.2.1 pc = .ok (.iconst n, 1)) (hv : Int32.ofInt n = v) (k : wr_V l d M (pc + 1) ls (.int v :: st) sh I L R mc ms Q) : wr_V l d M pc ls st sh I L R mc ms Q := by
  intro Z p e Rm s m args below meth c H locs cells slots mT sT la X
  exact lv_iconst X.1.1 X.1.2.1 hd hv (k Z p e Rm s m args below meth c H locs cells slots mT sT la X)
theorem wv_bipush {n : Int} {v : Int32} (hd : decode M.2.1 pc = .ok (.bipush n, 2)) (hv : (Int8.ofInt n).toInt32 = v) (k : wr_V l d M (pc + 2) ls (.int v :: st) sh I L R mc ms Q) : wr_V l d M pc ls st sh I L R mc ms Q := by
  intro Z p e Rm s m args below meth c H locs cells slots mT sT la X
  exact lv_bipush X.1.1 X.1.2.1 hd hv (k Z p e Rm s m args below meth c H locs cells slots mT sT la X)
theorem wv_sipush {n : Int} {v : Int32} (hd : decode M.2.1 pc = .ok (.sipush n, 3)) (hv : (Int16.ofInt n).toInt32 = v) (k : wr_V l d M (pc + 3) ls (.int v :: st) sh I L R mc ms Q) : wr_V l d M pc ls st sh I L R mc ms Q := by
  intro Z p e Rm s m args below meth c H locs cells slots mT sT la X
  exact lv_sipush X.1.1 X.1.2.1 hd hv (k Z p e Rm s m args below meth c H locs cells slots mT sT la X)
theorem wv_lconst {n : Fin 2} {v : Int64} (hd : decode M.2.1 pc = .ok (.lconst n, 1)) (hv : Int64.ofNat (n : Nat) = v) (k : wr_V l d M (pc + 1) ls (.long v :: st) sh I L R mc ms Q) : wr_V l d M pc ls st sh I L R mc ms Q := by
  intro Z p e Rm s m args below meth c H locs cells slots mT sT la X
  exact lv_lconst X.1.1 X.1.2.1 hd hv (k Z p e Rm s m args below meth c H locs cells slots mT sT la X)
theorem wv_ldc {n : Nat} {v : Int32} (hw : Cond.constant M.1.cls n v ∈ wr_TG) (hd : decode M.2.1 pc = .ok (.ldc n, 2)) (k : wr_V l d M (pc + 2) ls (.int v :: st) sh I L R mc ms Q) : wr_V l d M pc ls st sh I L R mc ms Q := by
  intro Z p e Rm s m args below meth c H locs cells slots mT sT la X
  exact lv_ldc X.1.1 X.1.2.1 X.1.2.2.2.2.1 (X.2.1.1.1 _ hw args) hd (k Z p e Rm s m args below meth c H locs cells slots mT sT la X)
theorem wv_ldc_w {n : Nat} {v : Int32} (hw : Cond.constant M.1.cls n v ∈ wr_TG) (hd : decode M.2.1 pc = .ok (.ldc_w n, 3)) (k : wr_V l d M (pc + 3) ls (.int v :: st) sh I L R mc ms Q) : wr_V l d M pc ls st sh I L R mc ms Q := by
  intro Z p e Rm s m args below meth c H locs cells slots mT sT la X
  exact lv_ldcw X.1.1 X.1.2.1 X.1.2.2.2.2.1 (X.2.1.1.1 _ hw args) hd (k Z p e Rm s m args below meth c H locs cells slots mT sT la X)
theorem wv_ldc2_w {n : Nat} {v : Int64} (hw : Cond.constantLong M.1.cls n v ∈ wr_TG) (hd : decode M.2.1 pc = .ok (.ldc2_w n, 3)) (k : wr_V l d M (pc + 3) ls (.long v :: st) sh I L R mc ms Q) : wr_V l d M pc ls st sh I L R mc ms Q := by
  intro Z p e Rm s m args below meth c H locs cells slots mT sT la X
  exact lv_ldc2 X.1.1 X.1.2.1 X.1.2.2.2.2.1 (X.2.1.1.1 _ hw args) hd (k Z p e Rm s m args below meth c H locs cells slots mT sT la X)
theorem wr_la {Z : wr_Z} {la : Array Slot} {n i : Nat} {ls : List (Option Value)} {v : Value} (h : lv_has la n (wr_en Z ls 0)) (hi : ls[i]? = some (some v)) : la[i]? = some (.val (wr_cv Z v)) := by
  have := h.2.2 _ (wr_en_mem (b := 0) hi)
  rwa [show 0 + i = i from Nat.zero_add i] at this
theorem wv_iload_n {n : Fin 4} {x : Int32} (hd : decode M.2.1 pc = .ok (.iload_n n, 1)) (hl : ls[(n : Nat)]? = some (some (.int x))) (k : wr_V l d M (pc + 1) ls (.int x :: st) sh I L R mc ms Q) : wr_V l d M pc ls st sh I L R mc ms Q := by
  intro Z p e Rm s m args below meth c H locs cells slots mT sT la X
  exact lv_iload_n X.1.1 X.1.2.1 hd rfl (wr_la X.2.2.2.2.2.1 hl) (k Z p e Rm s m args below meth c H locs cells slots mT sT la X)
theorem wv_iload {n : Nat} {x : Int32} (hd : decode M.2.1 pc = .ok (.iload n, 2)) (hl : ls[n]? = some (some (.int x))) (k : wr_V l d M (pc + 2) ls (.int x :: st) sh I L R mc ms Q) : wr_V l d M pc ls st sh I L R mc ms Q := by
  intro Z p e Rm s m args below meth c H locs cells slots mT sT la X
  exact lv_iload X.1.1 X.1.2.1 hd (wr_la X.2.2.2.2.2.1 hl) (k Z p e Rm s m args below meth c H locs cells slots mT sT la X)
theorem wv_lload_n {n : Fin 4} {x : Int64} (hd : decode M.2.1 pc = .ok (.lload_n n, 1)) (hl : ls[(n : Nat)]? = some (some (.long x))) (k : wr_V l d M (pc + 1) ls (.long x :: st) sh I L R mc ms Q) : wr_V l d M pc ls st sh I L R mc ms Q := by
  intro Z p e Rm s m args below meth c H locs cells slots mT sT la X
  exact lv_lload_n X.1.1 X.1.2.1 hd rfl (wr_la X.2.2.2.2.2.1 hl) (k Z p e Rm s m args below meth c H locs cells slots mT sT la X)
theorem wv_lload {n : Nat} {x : Int64} (hd : decode M.2.1 pc = .ok (.lload n, 2)) (hl : ls[n]? = some (some (.long x))) (k : wr_V l d M (pc + 2) ls (.long x :: st) sh I L R mc ms Q) : wr_V l d M pc ls st sh I L R mc ms Q := by
  intro Z p e Rm s m args below meth c H locs cells slots mT sT la X
  exact lv_lload X.1.1 X.1.2.1 hd (wr_la X.2.2.2.2.2.1 hl) (k Z p e Rm s m args below meth c H locs cells slots mT sT la X)
theorem wv_aload_n {n : Fin 4} {x : Nat} (hd : decode M.2.1 pc = .ok (.aload_n n, 1)) (hl : ls[(n : Nat)]? = some (some (.ref x))) (k : wr_V l d M (pc + 1) ls (.ref x :: st) sh I L R mc ms Q) : wr_V l d M pc ls st sh I L R mc ms Q := by
  intro Z p e Rm s m args below meth c H locs cells slots mT sT la X
  exact lv_aload_n X.1.1 X.1.2.1 hd rfl (wr_la X.2.2.2.2.2.1 hl) (k Z p e Rm s m args below meth c H locs cells slots mT sT la X)
theorem wv_aload {n : Nat} {x : Nat} (hd : decode M.2.1 pc = .ok (.aload n, 2)) (hl : ls[n]? = some (some (.ref x))) (k : wr_V l d M (pc + 2) ls (.ref x :: st) sh I L R mc ms Q) : wr_V l d M pc ls st sh I L R mc ms Q := by
  intro Z p e Rm s m args below meth c H locs cells slots mT sT la X
  exact lv_aload X.1.1 X.1.2.1 hd (wr_la X.2.2.2.2.2.1 hl) (k Z p e Rm s m args below meth c H locs cells slots mT sT la X)
theorem wv_istore_n {n : Fin 4} {x : Int32} (hd : decode M.2.1 pc = .ok (.istore_n n, 1)) (hn : (n : Nat) < M.2.2.1) (k : wr_V l d M (pc + 1) (wr_s1 ls (n : Nat) (.int x)) st sh I L R mc ms Q) : wr_V l d M pc ls (.int x :: st) sh I L R mc ms Q := by
  intro Z p e Rm s m args below meth c H locs cells slots mT sT la X
  exact lv_istore_n X.1.1 X.1.2.1 hd rfl X.2.2.2.2.2.1 hn rfl (fun la2 h2 => k Z p e Rm s m args below meth c H locs cells slots mT sT la2 ⟨X.1, X.2.1, X.2.2.1, X.2.2.2.1, X.2.2.2.2.1, wr_lh_s1 (v := .int x) h2, X.2.2.2.2.2.2⟩)
theorem wv_istore {n : Nat} {x : Int32} (hd : decode M.2.1 pc = .ok (.istore n, 2)) (hn : n < M.2.2.1) (k : wr_V l d M (pc + 2) (wr_s1 ls n (.int x)) st sh I L R mc ms Q) : wr_V l d M pc ls (.int x :: st) sh I L R mc ms Q := by
  intro Z p e Rm s m args below meth c H locs cells slots mT sT la X
  exact lv_istore X.1.1 X.1.2.1 hd X.2.2.2.2.2.1 hn rfl (fun la2 h2 => k Z p e Rm s m args below meth c H locs cells slots mT sT la2 ⟨X.1, X.2.1, X.2.2.1, X.2.2.2.1, X.2.2.2.2.1, wr_lh_s1 (v := .int x) h2, X.2.2.2.2.2.2⟩)
theorem wv_lstore_n {n : Fin 4} {x : Int64} (hd : decode M.2.1 pc = .ok (.lstore_n n, 1)) (hn : (n : Nat) + 1 < M.2.2.1) (k : wr_V l d M (pc + 1) (wr_s2 ls (n : Nat) (.long x)) st sh I L R mc ms Q) : wr_V l d M pc ls (.long x :: st) sh I L R mc ms Q := by
  intro Z p e Rm s m args below meth c H locs cells slots mT sT la X
  exact lv_lstore_n X.1.1 X.1.2.1 hd rfl X.2.2.2.2.2.1 hn rfl (fun la2 h2 => k Z p e Rm s m args below meth c H locs cells slots mT sT la2 ⟨X.1, X.2.1, X.2.2.1, X.2.2.2.1, X.2.2.2.2.1, wr_lh_s2 (v := .long x) h2, X.2.2.2.2.2.2⟩)
theorem wv_lstore {n : Nat} {x : Int64} (hd : decode M.2.1 pc = .ok (.lstore n, 2)) (hn : n + 1 < M.2.2.1) (k : wr_V l d M (pc + 2) (wr_s2 ls n (.long x)) st sh I L R mc ms Q) : wr_V l d M pc ls (.long x :: st) sh I L R mc ms Q := by
  intro Z p e Rm s m args below meth c H locs cells slots mT sT la X
  exact lv_lstore X.1.1 X.1.2.1 hd X.2.2.2.2.2.1 hn rfl (fun la2 h2 => k Z p e Rm s m args below meth c H locs cells slots mT sT la2 ⟨X.1, X.2.1, X.2.2.1, X.2.2.2.1, X.2.2.2.2.1, wr_lh_s2 (v := .long x) h2, X.2.2.2.2.2.2⟩)
theorem wv_astore_n {n : Fin 4} {x : Nat} (hd : decode M.2.1 pc = .ok (.astore_n n, 1)) (hn : (n : Nat) < M.2.2.1) (k : wr_V l d M (pc + 1) (wr_s1 ls (n : Nat) (.ref x)) st sh I L R mc ms Q) : wr_V l d M pc ls (.ref x :: st) sh I L R mc ms Q := by
  intro Z p e Rm s m args below meth c H locs cells slots mT sT la X
  exact lv_astore_n X.1.1 X.1.2.1 hd rfl X.2.2.2.2.2.1 hn rfl (fun la2 h2 => k Z p e Rm s m args below meth c H locs cells slots mT sT la2 ⟨X.1, X.2.1, X.2.2.1, X.2.2.2.1, X.2.2.2.2.1, wr_lh_s1 (v := .ref x) h2, X.2.2.2.2.2.2⟩)
theorem wv_iinc {n : Nat} {i : Int} {x v : Int32} (hd : decode M.2.1 pc = .ok (.iinc n i, 3)) (hl : ls[n]? = some (some (.int x))) (hv : x + Int32.ofInt i = v) (hn : n < M.2.2.1) (k : wr_V l d M (pc + 3) (wr_s1 ls n (.int v)) st sh I L R mc ms Q) : wr_V l d M pc ls st sh I L R mc ms Q := by
  intro Z p e Rm s m args below meth c H locs cells slots mT sT la X
  obtain ⟨j, hj⟩ := List.getElem?_of_mem (wr_en_mem (Z := Z) (b := 0) hl)
  rw [show 0 + n = n from Nat.zero_add n] at hj
  exact lv_iinc X.1.1 X.1.2.1 hd X.2.2.2.2.2.1 hj hv hn rfl (fun la2 h2 => k Z p e Rm s m args below meth c H locs cells slots mT sT la2 ⟨X.1, X.2.1, X.2.2.1, X.2.2.2.1, X.2.2.2.2.1, wr_lh_s1 (v := .int v) h2, X.2.2.2.2.2.2⟩)
theorem wv_iadd {x y : Int32} (hd : decode M.2.1 pc = .ok (.iadd, 1)) (k : wr_V l d M (pc + 1) ls (.int (x + y) :: st) sh I L R mc ms Q) : wr_V l d M pc ls (.int y :: .int x :: st) sh I L R mc ms Q := by
  intro Z p e Rm s m args below meth c H locs cells slots mT sT la X
  exact lv_iadd X.1.1 X.1.2.1 hd  (k Z p e Rm s m args below meth c H locs cells slots mT sT la X)
theorem wv_isub {x y : Int32} (hd : decode M.2.1 pc = .ok (.isub, 1)) (k : wr_V l d M (pc + 1) ls (.int (x - y) :: st) sh I L R mc ms Q) : wr_V l d M pc ls (.int y :: .int x :: st) sh I L R mc ms Q := by
  intro Z p e Rm s m args below meth c H locs cells slots mT sT la X
  exact lv_isub X.1.1 X.1.2.1 hd  (k Z p e Rm s m args below meth c H locs cells slots mT sT la X)
theorem wv_imul {x y : Int32} (hd : decode M.2.1 pc = .ok (.imul, 1)) (k : wr_V l d M (pc + 1) ls (.int (x * y) :: st) sh I L R mc ms Q) : wr_V l d M pc ls (.int y :: .int x :: st) sh I L R mc ms Q := by
  intro Z p e Rm s m args below meth c H locs cells slots mT sT la X
  exact lv_imul X.1.1 X.1.2.1 hd  (k Z p e Rm s m args below meth c H locs cells slots mT sT la X)
theorem wv_iand {x y : Int32} (hd : decode M.2.1 pc = .ok (.iand, 1)) (k : wr_V l d M (pc + 1) ls (.int (x &&& y) :: st) sh I L R mc ms Q) : wr_V l d M pc ls (.int y :: .int x :: st) sh I L R mc ms Q := by
  intro Z p e Rm s m args below meth c H locs cells slots mT sT la X
  exact lv_iand X.1.1 X.1.2.1 hd  (k Z p e Rm s m args below meth c H locs cells slots mT sT la X)
theorem wv_ishr {x y : Int32} (hd : decode M.2.1 pc = .ok (.ishr, 1)) (k : wr_V l d M (pc + 1) ls (.int (x >>> (y &&& 31)) :: st) sh I L R mc ms Q) : wr_V l d M pc ls (.int y :: .int x :: st) sh I L R mc ms Q := by
  intro Z p e Rm s m args below meth c H locs cells slots mT sT la X
  exact lv_ishr X.1.1 X.1.2.1 hd  (k Z p e Rm s m args below meth c H locs cells slots mT sT la X)
theorem wv_idiv {x y : Int32} (hd : decode M.2.1 pc = .ok (.idiv, 1)) (hne : ¬ y = 0) (k : wr_V l d M (pc + 1) ls (.int (x / y) :: st) sh I L R mc ms Q) : wr_V l d M pc ls (.int y :: .int x :: st) sh I L R mc ms Q := by
  intro Z p e Rm s m args below meth c H locs cells slots mT sT la X
  exact lv_idiv X.1.1 X.1.2.1 hd hne (k Z p e Rm s m args below meth c H locs cells slots mT sT la X)
theorem wv_irem {x y : Int32} (hd : decode M.2.1 pc = .ok (.irem, 1)) (hne : ¬ y = 0) (k : wr_V l d M (pc + 1) ls (.int (x - x / y * y) :: st) sh I L R mc ms Q) : wr_V l d M pc ls (.int y :: .int x :: st) sh I L R mc ms Q := by
  intro Z p e Rm s m args below meth c H locs cells slots mT sT la X
  exact lv_irem X.1.1 X.1.2.1 hd hne (k Z p e Rm s m args below meth c H locs cells slots mT sT la X)
theorem wv_ladd {x y : Int64} (hd : decode M.2.1 pc = .ok (.ladd, 1)) (k : wr_V l d M (pc + 1) ls (.long (x + y) :: st) sh I L R mc ms Q) : wr_V l d M pc ls (.long y :: .long x :: st) sh I L R mc ms Q := by
  intro Z p e Rm s m args below meth c H locs cells slots mT sT la X
  exact lv_ladd X.1.1 X.1.2.1 hd  (k Z p e Rm s m args below meth c H locs cells slots mT sT la X)
theorem wv_lsub {x y : Int64} (hd : decode M.2.1 pc = .ok (.lsub, 1)) (k : wr_V l d M (pc + 1) ls (.long (x - y) :: st) sh I L R mc ms Q) : wr_V l d M pc ls (.long y :: .long x :: st) sh I L R mc ms Q := by
  intro Z p e Rm s m args below meth c H locs cells slots mT sT la X
  exact lv_lsub X.1.1 X.1.2.1 hd  (k Z p e Rm s m args below meth c H locs cells slots mT sT la X)
theorem wv_lmul {x y : Int64} (hd : decode M.2.1 pc = .ok (.lmul, 1)) (k : wr_V l d M (pc + 1) ls (.long (x * y) :: st) sh I L R mc ms Q) : wr_V l d M pc ls (.long y :: .long x :: st) sh I L R mc ms Q := by
  intro Z p e Rm s m args below meth c H locs cells slots mT sT la X
  exact lv_lmul X.1.1 X.1.2.1 hd  (k Z p e Rm s m args below meth c H locs cells slots mT sT la X)
theorem wv_land {x y : Int64} (hd : decode M.2.1 pc = .ok (.land, 1)) (k : wr_V l d M (pc + 1) ls (.long (x &&& y) :: st) sh I L R mc ms Q) : wr_V l d M pc ls (.long y :: .long x :: st) sh I L R mc ms Q := by
  intro Z p e Rm s m args below meth c H locs cells slots mT sT la X
  exact lv_land X.1.1 X.1.2.1 hd  (k Z p e Rm s m args below meth c H locs cells slots mT sT la X)
theorem wv_lor {x y : Int64} (hd : decode M.2.1 pc = .ok (.lor, 1)) (k : wr_V l d M (pc + 1) ls (.long (x ||| y) :: st) sh I L R mc ms Q) : wr_V l d M pc ls (.long y :: .long x :: st) sh I L R mc ms Q := by
  intro Z p e Rm s m args below meth c H locs cells slots mT sT la X
  exact lv_lor X.1.1 X.1.2.1 hd  (k Z p e Rm s m args below meth c H locs cells slots mT sT la X)
theorem wv_lxor {x y : Int64} (hd : decode M.2.1 pc = .ok (.lxor, 1)) (k : wr_V l d M (pc + 1) ls (.long (x ^^^ y) :: st) sh I L R mc ms Q) : wr_V l d M pc ls (.long y :: .long x :: st) sh I L R mc ms Q := by
  intro Z p e Rm s m args below meth c H locs cells slots mT sT la X
  exact lv_lxor X.1.1 X.1.2.1 hd  (k Z p e Rm s m args below meth c H locs cells slots mT sT la X)
theorem wv_ldiv {x y : Int64} (hd : decode M.2.1 pc = .ok (.ldiv, 1)) (hne : ¬ y = 0) (k : wr_V l d M (pc + 1) ls (.long (x / y) :: st) sh I L R mc ms Q) : wr_V l d M pc ls (.long y :: .long x :: st) sh I L R mc ms Q := by
  intro Z p e Rm s m args below meth c H locs cells slots mT sT la X
  exact lv_ldiv X.1.1 X.1.2.1 hd hne (k Z p e Rm s m args below meth c H locs cells slots mT sT la X)
theorem wv_lrem {x y : Int64} (hd : decode M.2.1 pc = .ok (.lrem, 1)) (hne : ¬ y = 0) (k : wr_V l d M (pc + 1) ls (.long (x - x / y * y) :: st) sh I L R mc ms Q) : wr_V l d M pc ls (.long y :: .long x :: st) sh I L R mc ms Q := by
  intro Z p e Rm s m args below meth c H locs cells slots mT sT la X
  exact lv_lrem X.1.1 X.1.2.1 hd hne (k Z p e Rm s m args below meth c H locs cells slots mT sT la X)
theorem wv_iushr {x y : Int32} (hd : decode M.2.1 pc = .ok (.iushr, 1)) (k : wr_V l d M (pc + 1) ls (.int ((x.toUInt32 >>> (y.toUInt32 &&& Int32.toUInt32 31)).toInt32) :: st) sh I L R mc ms Q) : wr_V l d M pc ls (.int y :: .int x :: st) sh I L R mc ms Q := by
  intro Z p e Rm s m args below meth c H locs cells slots mT sT la X
  exact lv_iushr X.1.1 X.1.2.1 hd rfl (k Z p e Rm s m args below meth c H locs cells slots mT sT la X)
theorem wv_lshl {x : Int64} {y : Int32} (hd : decode M.2.1 pc = .ok (.lshl, 1)) (k : wr_V l d M (pc + 1) ls (.long (x <<< (y.toInt64 &&& 63)) :: st) sh I L R mc ms Q) : wr_V l d M pc ls (.int y :: .long x :: st) sh I L R mc ms Q := by
  intro Z p e Rm s m args below meth c H locs cells slots mT sT la X
  exact lv_lshl X.1.1 X.1.2.1 hd rfl (k Z p e Rm s m args below meth c H locs cells slots mT sT la X)
theorem wv_lshr {x : Int64} {y : Int32} (hd : decode M.2.1 pc = .ok (.lshr, 1)) (k : wr_V l d M (pc + 1) ls (.long (x >>> (y.toInt64 &&& 63)) :: st) sh I L R mc ms Q) : wr_V l d M pc ls (.int y :: .long x :: st) sh I L R mc ms Q := by
  intro Z p e Rm s m args below meth c H locs cells slots mT sT la X
  exact lv_lshr X.1.1 X.1.2.1 hd rfl (k Z p e Rm s m args below meth c H locs cells slots mT sT la X)
theorem wv_lushr {x : Int64} {y : Int32} (hd : decode M.2.1 pc = .ok (.lushr, 1)) (k : wr_V l d M (pc + 1) ls (.long ((x.toUInt64 >>> (y.toInt64.toUInt64 &&& Int64.toUInt64 63)).toInt64) :: st) sh I L R mc ms Q) : wr_V l d M pc ls (.int y :: .long x :: st) sh I L R mc ms Q := by
  intro Z p e Rm s m args below meth c H locs cells slots mT sT la X
  exact lv_lushr X.1.1 X.1.2.1 hd rfl (k Z p e Rm s m args below meth c H locs cells slots mT sT la X)
theorem wv_i2l {x : Int32} (hd : decode M.2.1 pc = .ok (.i2l, 1)) (k : wr_V l d M (pc + 1) ls (.long x.toInt64 :: st) sh I L R mc ms Q) : wr_V l d M pc ls (.int x :: st) sh I L R mc ms Q := by
  intro Z p e Rm s m args below meth c H locs cells slots mT sT la X
  exact lv_i2l X.1.1 X.1.2.1 hd rfl (k Z p e Rm s m args below meth c H locs cells slots mT sT la X)
theorem wv_i2b {x : Int32} (hd : decode M.2.1 pc = .ok (.i2b, 1)) (k : wr_V l d M (pc + 1) ls (.int x.toInt8.toInt32 :: st) sh I L R mc ms Q) : wr_V l d M pc ls (.int x :: st) sh I L R mc ms Q := by
  intro Z p e Rm s m args below meth c H locs cells slots mT sT la X
  exact lv_i2b X.1.1 X.1.2.1 hd rfl (k Z p e Rm s m args below meth c H locs cells slots mT sT la X)
theorem wv_l2i {x : Int64} (hd : decode M.2.1 pc = .ok (.l2i, 1)) (k : wr_V l d M (pc + 1) ls (.int x.toInt32 :: st) sh I L R mc ms Q) : wr_V l d M pc ls (.long x :: st) sh I L R mc ms Q := by
  intro Z p e Rm s m args below meth c H locs cells slots mT sT la X
  exact lv_l2i X.1.1 X.1.2.1 hd rfl (k Z p e Rm s m args below meth c H locs cells slots mT sT la X)
theorem wv_lcmp {x y : Int64} (hd : decode M.2.1 pc = .ok (.lcmp, 1)) (k : wr_V l d M (pc + 1) ls (.int (lg_cmp x y) :: st) sh I L R mc ms Q) : wr_V l d M pc ls (.long y :: .long x :: st) sh I L R mc ms Q := by
  intro Z p e Rm s m args below meth c H locs cells slots mT sT la X
  exact W.lcmp X.1.1 X.1.2.1 hd  (k Z p e Rm s m args below meth c H locs cells slots mT sT la X)
theorem wv_dup {v : Value} (hd : decode M.2.1 pc = .ok (.dup, 1)) (hv : v.category = 1) (k : wr_V l d M (pc + 1) ls (v :: v :: st) sh I L R mc ms Q) : wr_V l d M pc ls (v :: st) sh I L R mc ms Q := by
  intro Z p e Rm s m args below meth c H locs cells slots mT sT la X
  exact lv_dup X.1.1 X.1.2.1 hd ((wr_cv_cat Z v).trans hv) (k Z p e Rm s m args below meth c H locs cells slots mT sT la X)
theorem wv_pop {v : Value} (hd : decode M.2.1 pc = .ok (.pop, 1)) (hv : v.category = 1) (k : wr_V l d M (pc + 1) ls (st) sh I L R mc ms Q) : wr_V l d M pc ls (v :: st) sh I L R mc ms Q := by
  intro Z p e Rm s m args below meth c H locs cells slots mT sT la X
  exact lv_pop X.1.1 X.1.2.1 hd ((wr_cv_cat Z v).trans hv) (k Z p e Rm s m args below meth c H locs cells slots mT sT la X)
theorem wv_dup2 {v u : Value} (hd : decode M.2.1 pc = .ok (.dup2, 1)) (hv : v.category = 1) (hu : u.category = 1) (k : wr_V l d M (pc + 1) ls (v :: u :: v :: u :: st) sh I L R mc ms Q) : wr_V l d M pc ls (v :: u :: st) sh I L R mc ms Q := by
  intro Z p e Rm s m args below meth c H locs cells slots mT sT la X
  exact lv_dup2_11 X.1.1 X.1.2.1 hd ((wr_cv_cat Z v).trans hv) ((wr_cv_cat Z u).trans hu) (k Z p e Rm s m args below meth c H locs cells slots mT sT la X)
theorem wv_dup2l {v : Value} (hd : decode M.2.1 pc = .ok (.dup2, 1)) (hv : v.category = 2) (k : wr_V l d M (pc + 1) ls (v :: v :: st) sh I L R mc ms Q) : wr_V l d M pc ls (v :: st) sh I L R mc ms Q := by
  intro Z p e Rm s m args below meth c H locs cells slots mT sT la X
  exact lv_dup2_2 X.1.1 X.1.2.1 hd ((wr_cv_cat Z v).trans hv) (k Z p e Rm s m args below meth c H locs cells slots mT sT la X)
theorem wv_pop2l {v : Value} (hd : decode M.2.1 pc = .ok (.pop2, 1)) (hv : v.category = 2) (k : wr_V l d M (pc + 1) ls (st) sh I L R mc ms Q) : wr_V l d M pc ls (v :: st) sh I L R mc ms Q := by
  intro Z p e Rm s m args below meth c H locs cells slots mT sT la X
  exact lv_pop2_2 X.1.1 X.1.2.1 hd ((wr_cv_cat Z v).trans hv) (k Z p e Rm s m args below meth c H locs cells slots mT sT la X)
theorem wv_goto {off : Int} {tgt : Nat} (hd : decode M.2.1 pc = .ok (.goto off, 3)) (ht : (pc : Int) + off = (tgt : Int)) (k : wr_V l d M tgt ls st sh I L R mc ms Q) : wr_V l d M pc ls st sh I L R mc ms Q := by
  intro Z p e Rm s m args below meth c H locs cells slots mT sT la X
  exact lv_goto X.1.1 X.1.2.1 hd ht (k Z p e Rm s m args below meth c H locs cells slots mT sT la X)
theorem wv_ifnull {j : Nat} {off : Int} (hd : decode M.2.1 pc = .ok (.ifnull off, 3)) (k : wr_V l d M (pc + 3) ls st sh I L R mc ms Q) : wr_V l d M pc ls (.ref j :: st) sh I L R mc ms Q := by
  intro Z p e Rm s m args below meth c H locs cells slots mT sT la X
  exact lv_ifnull X.1.1 X.1.2.1 hd (k Z p e Rm s m args below meth c H locs cells slots mT sT la X)
theorem wv_icmp_eq {x y : Int32} {off : Int} {tgt : Nat} (hd : decode M.2.1 pc = .ok (.if_icmp .eq off, 3)) (ht : (pc : Int) + off = (tgt : Int)) (k1 : x = y → wr_V l d M tgt ls st sh I L R mc ms Q) (k2 : ¬ x = y → wr_V l d M (pc + 3) ls st sh I L R mc ms Q) : wr_V l d M pc ls (.int y :: .int x :: st) sh I L R mc ms Q := by
  intro Z p e Rm s m args below meth c H locs cells slots mT sT la X
  exact lv_icmp_eq X.1.1 X.1.2.1 hd ht (fun h => k1 h Z p e Rm s m args below meth c H locs cells slots mT sT la X) (fun h => k2 h Z p e Rm s m args below meth c H locs cells slots mT sT la X)
theorem wv_if_eq {x : Int32} {off : Int} {tgt : Nat} (hd : decode M.2.1 pc = .ok (.ifCond .eq off, 3)) (ht : (pc : Int) + off = (tgt : Int)) (k1 : x = 0 → wr_V l d M tgt ls st sh I L R mc ms Q) (k2 : ¬ x = 0 → wr_V l d M (pc + 3) ls st sh I L R mc ms Q) : wr_V l d M pc ls (.int x :: st) sh I L R mc ms Q := by
  intro Z p e Rm s m args below meth c H locs cells slots mT sT la X
  exact lv_if_eq X.1.1 X.1.2.1 hd ht (fun h => k1 h Z p e Rm s m args below meth c H locs cells slots mT sT la X) (fun h => k2 h Z p e Rm s m args below meth c H locs cells slots mT sT la X)
theorem wv_icmp_ne {x y : Int32} {off : Int} {tgt : Nat} (hd : decode M.2.1 pc = .ok (.if_icmp .ne off, 3)) (ht : (pc : Int) + off = (tgt : Int)) (k1 : ¬ x = y → wr_V l d M tgt ls st sh I L R mc ms Q) (k2 : x = y → wr_V l d M (pc + 3) ls st sh I L R mc ms Q) : wr_V l d M pc ls (.int y :: .int x :: st) sh I L R mc ms Q := by
  intro Z p e Rm s m args below meth c H locs cells slots mT sT la X
  exact lv_icmp_ne X.1.1 X.1.2.1 hd ht (fun h => k1 h Z p e Rm s m args below meth c H locs cells slots mT sT la X) (fun h => k2 h Z p e Rm s m args below meth c H locs cells slots mT sT la X)
theorem wv_if_ne {x : Int32} {off : Int} {tgt : Nat} (hd : decode M.2.1 pc = .ok (.ifCond .ne off, 3)) (ht : (pc : Int) + off = (tgt : Int)) (k1 : ¬ x = 0 → wr_V l d M tgt ls st sh I L R mc ms Q) (k2 : x = 0 → wr_V l d M (pc + 3) ls st sh I L R mc ms Q) : wr_V l d M pc ls (.int x :: st) sh I L R mc ms Q := by
  intro Z p e Rm s m args below meth c H locs cells slots mT sT la X
  exact lv_if_ne X.1.1 X.1.2.1 hd ht (fun h => k1 h Z p e Rm s m args below meth c H locs cells slots mT sT la X) (fun h => k2 h Z p e Rm s m args below meth c H locs cells slots mT sT la X)
theorem wv_icmp_lt {x y : Int32} {off : Int} {tgt : Nat} (hd : decode M.2.1 pc = .ok (.if_icmp .lt off, 3)) (ht : (pc : Int) + off = (tgt : Int)) (k1 : x < y → wr_V l d M tgt ls st sh I L R mc ms Q) (k2 : ¬ x < y → wr_V l d M (pc + 3) ls st sh I L R mc ms Q) : wr_V l d M pc ls (.int y :: .int x :: st) sh I L R mc ms Q := by
  intro Z p e Rm s m args below meth c H locs cells slots mT sT la X
  exact lv_icmp_lt X.1.1 X.1.2.1 hd ht (fun h => k1 h Z p e Rm s m args below meth c H locs cells slots mT sT la X) (fun h => k2 h Z p e Rm s m args below meth c H locs cells slots mT sT la X)
theorem wv_if_lt {x : Int32} {off : Int} {tgt : Nat} (hd : decode M.2.1 pc = .ok (.ifCond .lt off, 3)) (ht : (pc : Int) + off = (tgt : Int)) (k1 : x < 0 → wr_V l d M tgt ls st sh I L R mc ms Q) (k2 : ¬ x < 0 → wr_V l d M (pc + 3) ls st sh I L R mc ms Q) : wr_V l d M pc ls (.int x :: st) sh I L R mc ms Q := by
  intro Z p e Rm s m args below meth c H locs cells slots mT sT la X
  exact lv_if_lt X.1.1 X.1.2.1 hd ht (fun h => k1 h Z p e Rm s m args below meth c H locs cells slots mT sT la X) (fun h => k2 h Z p e Rm s m args below meth c H locs cells slots mT sT la X)
theorem wv_icmp_ge {x y : Int32} {off : Int} {tgt : Nat} (hd : decode M.2.1 pc = .ok (.if_icmp .ge off, 3)) (ht : (pc : Int) + off = (tgt : Int)) (k1 : y ≤ x → wr_V l d M tgt ls st sh I L R mc ms Q) (k2 : ¬ y ≤ x → wr_V l d M (pc + 3) ls st sh I L R mc ms Q) : wr_V l d M pc ls (.int y :: .int x :: st) sh I L R mc ms Q := by
  intro Z p e Rm s m args below meth c H locs cells slots mT sT la X
  exact lv_icmp_ge X.1.1 X.1.2.1 hd ht (fun h => k1 h Z p e Rm s m args below meth c H locs cells slots mT sT la X) (fun h => k2 h Z p e Rm s m args below meth c H locs cells slots mT sT la X)
theorem wv_if_ge {x : Int32} {off : Int} {tgt : Nat} (hd : decode M.2.1 pc = .ok (.ifCond .ge off, 3)) (ht : (pc : Int) + off = (tgt : Int)) (k1 : 0 ≤ x → wr_V l d M tgt ls st sh I L R mc ms Q) (k2 : ¬ 0 ≤ x → wr_V l d M (pc + 3) ls st sh I L R mc ms Q) : wr_V l d M pc ls (.int x :: st) sh I L R mc ms Q := by
  intro Z p e Rm s m args below meth c H locs cells slots mT sT la X
  exact lv_if_ge X.1.1 X.1.2.1 hd ht (fun h => k1 h Z p e Rm s m args below meth c H locs cells slots mT sT la X) (fun h => k2 h Z p e Rm s m args below meth c H locs cells slots mT sT la X)
theorem wv_icmp_gt {x y : Int32} {off : Int} {tgt : Nat} (hd : decode M.2.1 pc = .ok (.if_icmp .gt off, 3)) (ht : (pc : Int) + off = (tgt : Int)) (k1 : y < x → wr_V l d M tgt ls st sh I L R mc ms Q) (k2 : ¬ y < x → wr_V l d M (pc + 3) ls st sh I L R mc ms Q) : wr_V l d M pc ls (.int y :: .int x :: st) sh I L R mc ms Q := by
  intro Z p e Rm s m args below meth c H locs cells slots mT sT la X
  exact lv_icmp_gt X.1.1 X.1.2.1 hd ht (fun h => k1 h Z p e Rm s m args below meth c H locs cells slots mT sT la X) (fun h => k2 h Z p e Rm s m args below meth c H locs cells slots mT sT la X)
theorem wv_if_gt {x : Int32} {off : Int} {tgt : Nat} (hd : decode M.2.1 pc = .ok (.ifCond .gt off, 3)) (ht : (pc : Int) + off = (tgt : Int)) (k1 : 0 < x → wr_V l d M tgt ls st sh I L R mc ms Q) (k2 : ¬ 0 < x → wr_V l d M (pc + 3) ls st sh I L R mc ms Q) : wr_V l d M pc ls (.int x :: st) sh I L R mc ms Q := by
  intro Z p e Rm s m args below meth c H locs cells slots mT sT la X
  exact lv_if_gt X.1.1 X.1.2.1 hd ht (fun h => k1 h Z p e Rm s m args below meth c H locs cells slots mT sT la X) (fun h => k2 h Z p e Rm s m args below meth c H locs cells slots mT sT la X)
theorem wv_icmp_le {x y : Int32} {off : Int} {tgt : Nat} (hd : decode M.2.1 pc = .ok (.if_icmp .le off, 3)) (ht : (pc : Int) + off = (tgt : Int)) (k1 : x ≤ y → wr_V l d M tgt ls st sh I L R mc ms Q) (k2 : ¬ x ≤ y → wr_V l d M (pc + 3) ls st sh I L R mc ms Q) : wr_V l d M pc ls (.int y :: .int x :: st) sh I L R mc ms Q := by
  intro Z p e Rm s m args below meth c H locs cells slots mT sT la X
  exact lv_icmp_le X.1.1 X.1.2.1 hd ht (fun h => k1 h Z p e Rm s m args below meth c H locs cells slots mT sT la X) (fun h => k2 h Z p e Rm s m args below meth c H locs cells slots mT sT la X)
theorem wv_if_le {x : Int32} {off : Int} {tgt : Nat} (hd : decode M.2.1 pc = .ok (.ifCond .le off, 3)) (ht : (pc : Int) + off = (tgt : Int)) (k1 : x ≤ 0 → wr_V l d M tgt ls st sh I L R mc ms Q) (k2 : ¬ x ≤ 0 → wr_V l d M (pc + 3) ls st sh I L R mc ms Q) : wr_V l d M pc ls (.int x :: st) sh I L R mc ms Q := by
  intro Z p e Rm s m args below meth c H locs cells slots mT sT la X
  exact lv_if_le X.1.1 X.1.2.1 hd ht (fun h => k1 h Z p e Rm s m args below meth c H locs cells slots mT sT la X) (fun h => k2 h Z p e Rm s m args below meth c H locs cells slots mT sT la X)
theorem wv_tableIn {dflt lo hi : Int} {offs : Array Int} {len : Nat} {x : Int32} {off : Int} {tgt : Nat} (hd : decode M.2.1 pc = .ok (.tableswitch dflt lo hi offs, len)) (h1 : ¬ x.toInt < lo) (h2 : ¬ hi < x.toInt) (ho : offs[(x.toInt - lo).toNat]? = some off) (ht : (pc : Int) + off = (tgt : Int)) (k : wr_V l d M tgt ls st sh I L R mc ms Q) : wr_V l d M pc ls (.int x :: st) sh I L R mc ms Q := by
  intro Z p e Rm s m args below meth c H locs cells slots mT sT la X
  exact lv_tableIn X.1.1 X.1.2.1 hd h1 h2 ho ht (k Z p e Rm s m args below meth c H locs cells slots mT sT la X)
theorem wv_tableOut {dflt lo hi : Int} {offs : Array Int} {len : Nat} {x : Int32} {tgt : Nat} (hd : decode M.2.1 pc = .ok (.tableswitch dflt lo hi offs, len)) (h : x.toInt < lo ∨ hi < x.toInt) (ht : (pc : Int) + dflt = (tgt : Int)) (k : wr_V l d M tgt ls st sh I L R mc ms Q) : wr_V l d M pc ls (.int x :: st) sh I L R mc ms Q := by
  intro Z p e Rm s m args below meth c H locs cells slots mT sT la X
  exact lv_tableOut X.1.1 X.1.2.1 hd h ht (k Z p e Rm s m args below meth c H locs cells slots mT sT la X)
theorem wv_ret {x : Unit} (hM : M.2.2.2 = none) (hd : decode M.2.1 pc = .ok (.return_, 1)) (hq : Q none sh I L R) : wr_V l d M pc ls [] sh I L R mc ms Q := by
  intro Z p e Rm s m args below meth c H locs cells slots mT sT la X
  refine W.widen (k := mT) (n := sT) (by have := X.2.2.2.2.2.2.1; omega) (by have := X.2.2.2.2.2.2.2.1; omega) ?_
  exact W.vret X.1.1 X.1.2.1 (X.1.2.2.1.trans hM) (fun t ht hW => ⟨⟨none, sh, I, L, R, rfl, hq, by rw [ht]; exact X.2.2.2.1⟩, X.2.2.2.2.1.F ht⟩) X.2.2.2.2.1.2.2 hd X.1.2.2.2.2.2.1
theorem wv_lret {x : Int64} (hM : M.2.2.2 = some .long) (hd : decode M.2.1 pc = .ok (.lreturn, 1)) (hq : Q (some (.long x)) sh I L R) : wr_V l d M pc ls [.long x] sh I L R mc ms Q := by
  intro Z p e Rm s m args below meth c H locs cells slots mT sT la X
  refine W.widen (k := mT) (n := sT) (by have := X.2.2.2.2.2.2.1; omega) (by have := X.2.2.2.2.2.2.2.1; omega) ?_
  exact W.lret X.1.1 X.1.2.1 (X.1.2.2.1.trans hM) (fun t ht hW => ⟨⟨some (.long x), sh, I, L, R, rfl, hq, by rw [ht]; exact X.2.2.2.1⟩, X.2.2.2.2.1.F ht⟩) X.2.2.2.2.1.2.2 hd X.1.2.2.2.2.2.1
theorem wv_iret {x : Int32} (hM : M.2.2.2 = some .int) (hd : decode M.2.1 pc = .ok (.ireturn, 1)) (hq : Q (some (.int x)) sh I L R) : wr_V l d M pc ls [.int x] sh I L R mc ms Q := by
  intro Z p e Rm s m args below meth c H locs cells slots mT sT la X
  refine W.widen (k := mT) (n := sT) (by have := X.2.2.2.2.2.2.1; omega) (by have := X.2.2.2.2.2.2.2.1; omega) ?_
  exact W.iret X.1.1 X.1.2.1 (X.1.2.2.1.trans hM) (fun t ht hW => ⟨⟨some (.int x), sh, I, L, R, rfl, hq, by rw [ht]; exact X.2.2.2.1⟩, X.2.2.2.2.1.F ht⟩) X.2.2.2.2.1.2.2 hd X.1.2.2.2.2.2.1
theorem wv_zret {x : Int32} {ty : FieldType} (hM : M.2.2.2 = some ty) (hn : narrow ty (.int x) = .int x) (hd : decode M.2.1 pc = .ok (.ireturn, 1)) (hq : Q (some (.int x)) sh I L R) : wr_V l d M pc ls [.int x] sh I L R mc ms Q := by
  intro Z p e Rm s m args below meth c H locs cells slots mT sT la X
  refine W.widen (k := mT) (n := sT) (by have := X.2.2.2.2.2.2.1; omega) (by have := X.2.2.2.2.2.2.2.1; omega) ?_
  exact W.zret X.1.1 X.1.2.1 (X.1.2.2.1.trans hM) hn (fun t ht hW => ⟨⟨some (.int x), sh, I, L, R, rfl, hq, by rw [ht]; exact X.2.2.2.1⟩, X.2.2.2.2.1.F ht⟩) X.2.2.2.2.1.2.2 hd X.1.2.2.2.2.2.1
end WrRules
