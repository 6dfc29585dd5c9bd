/-! ONE WORLD: all cells of the class and of the reference, by their numbers; ints, longs and references as three tables -/
abbrev wr_M : Type := MethodName × ByteArray × Nat × Option FieldType
abbrev wr_S : Type := (Nat × Nat) ⊕ Nat
abbrev wr_Z : Type := va_G × (Nat → ClassId) × Nat × (Nat → Nat) × (Nat → Nat)
abbrev wr_TI : Type := Nat → Nat → Int32
abbrev wr_TL : Type := Nat → Nat → Int64
abbrev wr_TR : Type := Nat → Nat → Nat
abbrev wr_TQ : Type := Option Value → List wr_S → wr_TI → wr_TL → wr_TR → Prop
def wr_TG : List Cond := lw_tbl.filter goodWord
def wr_nest (w : Cond) : Bool := match w with
  | .fieldLinkNest _ _ _ _ _ _ => true
  | .methodLinkNest _ _ _ _ => true
  | _ => false
def wr_TN : List Cond := tables_1.filter wr_nest
def wr_cv (Z : wr_Z) (v : Value) : Value := match v with
  | .ref j => .ref (Z.2.2.2.1 j)
  | v => v
def wr_fC (ci : Nat) : String := match ci with
  | 0 => RX0 | 1 => RX1 | 2 => RX2 | 3 => RX3 | 4 => RX4 | 5 => RX5 | 6 => RX6 | 7 => RX7 | _ => RX8
def wr_fT (ci : Nat) : u_T := match ci with
  | 0 => TX0 | 1 => TX1 | 2 => TX2 | 3 => TX3 | 4 => TX4 | 5 => TX5 | 6 => TX6 | 7 => TX7 | _ => TX8
def wr_nf (ci : Nat) : Nat := match ci with
  | 0 => 9 | 1 => 10 | 2 => 4 | 3 => 13 | 4 => 11 | 5 => 13 | 6 => 2 | 7 => 12 | _ => 82
def wr_ty (ci : Nat) : Nat → FieldType := match ci with
  | 0 => tyX0 | 1 => tyX1 | 2 => tyX2 | 3 => tyX3 | 4 => tyX4 | 5 => tyX5 | 6 => tyX6 | 7 => tyX7 | _ => tyX8
def wr_kd (t : FieldType) : Nat := match t with
  | .long => 1
  | .object _ => 2
  | .array _ => 2
  | .float => 3
  | .double => 3
  | _ => 0
def wr_rf (Z : wr_Z) (r : Nat) : Option Nat := match r with
  | 0 => none
  | r + 1 => some (Z.2.2.2.1 r)
def wr_fv (Z : wr_Z) (I : wr_TI) (L : wr_TL) (R : wr_TR) (j : Nat) (kd k : Nat) : Value := match kd with
  | 0 => .int (I j k)
  | 1 => .long (L j k)
  | _ => va_rf (wr_rf Z (R j k))
def wr_fs (Z : wr_Z) (ci : Nat) (I : wr_TI) (L : wr_TL) (R : wr_TR) (j : Nat) : List Value := (List.range (wr_nf ci)).map (fun k => wr_fv Z I L R j (wr_kd (wr_ty ci k)) k)
def wr_ar (Z : wr_Z) (t : Nat) (I : wr_TI) (L : wr_TL) (R : wr_TR) (j : Nat) : (Nat → Int32) ⊕ (Nat → Int64) ⊕ (Nat → UInt32) ⊕ (Nat → UInt64) ⊕ (Nat → Option Nat) := match t with
  | 3 => .inr (.inl (L j))
  | 4 => .inr (.inr (.inr (.inr (fun i => wr_rf Z (R j i)))))
  | _ => .inl (I j)
def wr_ce (Z : wr_Z) (I : wr_TI) (L : wr_TL) (R : wr_TR) (x : wr_S) (j : Nat) : va_E := match x with
  | .inl (t, n) => .inl (Z.2.1 t, n, wr_ar Z t I L R j)
  | .inr ci => .inr (ci, wr_fs Z ci I L R j)
def wr_wd (Z : wr_Z) (sh : List wr_S) (I : wr_TI) (L : wr_TL) (R : wr_TR) : va_W := (List.range sh.length).map (fun j => (Z.2.2.2.1 j, wr_ce Z I L R (sh.getD j (.inr 0)) j))
def wr_at (t : Nat) : FieldType := match t with
  | 0 => .int | 1 => .byte | 2 => .boolean | 3 => .long | _ => .object RX0
def wr_tys (Z : wr_Z) : List (ClassId × FieldType) := [(Z.2.1 0, .int), (Z.2.1 1, .byte), (Z.2.1 2, .boolean), (Z.2.1 3, .long), (Z.2.1 4, .object RX0)]
def wr_A (Z : wr_Z) : Nat → Prop := fun q => Z.2.2.1 ≤ q
/-- the heap holds the world; the row 1000300 is the law's script: its length, then its ints -/
def wr_H (Z : wr_Z) (sh : List wr_S) (I : wr_TI) (L : wr_TL) (R : wr_TR) (H : Heap) : Prop := (H.size = Z.2.2.1 + sh.length ∧ ∀ k, I 1000300 k = Int32.ofNat (Z.2.2.2.2 k)) ∧ sh.length ≤ 1000000 ∧ va_P Z.1 vwCl (wr_wd Z sh I L R) H
def wr_uI (I : wr_TI) (j k : Nat) (x : Int32) : wr_TI := fun a b => if a = j ∧ b = k then x else I a b
def wr_uL (L : wr_TL) (j k : Nat) (x : Int64) : wr_TL := fun a b => if a = j ∧ b = k then x else L a b
def wr_uR (R : wr_TR) (j k : Nat) (x : Nat) : wr_TR := fun a b => if a = j ∧ b = k then x else R a b
/-- the words of the tables at a state, the classes' numbers, the addresses -/
def wr_Tab0 (Z : wr_Z) (U : State) : Prop := (∀ w ∈ wr_TG, ∀ a : Array Value, w.before a U = true) ∧ (∀ w ∈ wr_TN, va_Nw w U) ∧ va_K Z.1 vwCl (wr_tys Z) U ∧ ∀ j, j < 1000000 → Z.2.2.2.1 j = Z.2.2.1 + j
theorem wr_wd_len (Z : wr_Z) (sh : List wr_S) (I : wr_TI) (L : wr_TL) (R : wr_TR) : (wr_wd Z sh I L R).length = sh.length := by simp [wr_wd]
theorem wr_wd_get {Z : wr_Z} {sh : List wr_S} {I : wr_TI} {L : wr_TL} {R : wr_TR} {j : Nat} {x : wr_S} (h : sh[j]? = some x) : (wr_wd Z sh I L R)[j]? = some (Z.2.2.2.1 j, wr_ce Z I L R x j) := by
  obtain ⟨hl, he⟩ := List.getElem?_eq_some_iff.mp h
  simp [wr_wd, hl, he]
theorem wr_wd_inv {Z : wr_Z} {sh : List wr_S} {I : wr_TI} {L : wr_TL} {R : wr_TR} {j : Nat} {q : Nat × va_E} (h : (wr_wd Z sh I L R)[j]? = some q) : j < sh.length ∧ q.1 = Z.2.2.2.1 j := by
  have hl : j < sh.length := by
    have := (List.getElem?_eq_some_iff.mp h).1
    rwa [wr_wd_len] at this
  refine ⟨hl, ?_⟩
  obtain ⟨x, hx⟩ : ∃ x, sh[j]? = some x := ⟨sh[j], List.getElem?_eq_getElem hl⟩
  rw [wr_wd_get hx] at h
  cases h
  rfl
theorem wr_wd_D {Z : wr_Z} {sh : List wr_S} {I : wr_TI} {L : wr_TL} {R : wr_TR} (hz : ∀ j, j < 1000000 → Z.2.2.2.1 j = Z.2.2.1 + j) (hs : sh.length ≤ 1000000) : va_D (wr_A Z) (wr_wd Z sh I L R) := by
  refine ⟨fun i j p q hi hj e => ?_, fun k q hk => ?_⟩
  · obtain ⟨h1, h2⟩ := wr_wd_inv hi
    obtain ⟨h3, h4⟩ := wr_wd_inv hj
    rw [h2, h4, hz i (by omega), hz j (by omega)] at e
    omega
  · obtain ⟨h1, h2⟩ := wr_wd_inv hk
    show Z.2.2.1 ≤ q.1
    rw [h2, hz k (by omega)]
    omega
/-- two worlds of one shape are one, but for the cell at j -/
theorem wr_wd_set {Z : wr_Z} {sh : List wr_S} {I I' : wr_TI} {L L' : wr_TL} {R R' : wr_TR} {j : Nat} {x : wr_S} {a : Nat} {e : va_E} (h : sh[j]? = some x) (ha : a = Z.2.2.2.1 j) (he : wr_ce Z I' L' R' x j = e) (ho : ∀ (i : Nat) (y : wr_S), i ≠ j → wr_ce Z I' L' R' y i = wr_ce Z I L R y i) : (wr_wd Z sh I L R).set j (a, e) = wr_wd Z sh I' L' R' := by
  subst ha
  subst he
  apply List.ext_getElem?
  intro i
  have hl : j < sh.length := (List.getElem?_eq_some_iff.mp h).1
  by_cases hij : i = j
  · subst hij
    rw [wr_wd_get h, List.getElem?_set_self (by rw [wr_wd_len]; exact hl)]
  · rw [List.getElem?_set_ne (Ne.symm hij)]
    by_cases hi : i < sh.length
    · have hx : sh[i]? = some sh[i] := List.getElem?_eq_getElem hi
      rw [wr_wd_get hx, wr_wd_get hx, ho i _ hij]
    · rw [List.getElem?_eq_none (by rw [wr_wd_len]; omega), List.getElem?_eq_none (by rw [wr_wd_len]; omega)]
theorem wr_ce_eq {Z : wr_Z} {I I' : wr_TI} {L L' : wr_TL} {R R' : wr_TR} {i : Nat} (hI : I' i = I i) (hL : L' i = L i) (hR : R' i = R i) (y : wr_S) : wr_ce Z I' L' R' y i = wr_ce Z I L R y i := by
  rcases y with ⟨t, n⟩ | ci
  · simp only [wr_ce, wr_ar]
    rw [hI, hL, hR]
  · simp only [wr_ce, wr_fs]
    congr 2
    apply List.map_congr_left
    intro k _
    simp only [wr_fv]
    rw [hI, hL, hR]
theorem wr_uI_ne {I : wr_TI} {j k i : Nat} {x : Int32} (h : i ≠ j) : wr_uI I j k x i = I i := by
  funext b
  simp [wr_uI, h]
theorem wr_uL_ne {L : wr_TL} {j k i : Nat} {x : Int64} (h : i ≠ j) : wr_uL L j k x i = L i := by
  funext b
  simp [wr_uL, h]
theorem wr_uR_ne {R : wr_TR} {j k i : Nat} {x : Nat} (h : i ≠ j) : wr_uR R j k x i = R i := by
  funext b
  simp [wr_uR, h]
theorem wr_fs_len {Z : wr_Z} {ci : Nat} {I : wr_TI} {L : wr_TL} {R : wr_TR} {j : Nat} : (wr_fs Z ci I L R j).length = wr_nf ci := by simp [wr_fs]
theorem wr_fs_get {Z : wr_Z} {ci : Nat} {I : wr_TI} {L : wr_TL} {R : wr_TR} {j k : Nat} (h : k < wr_nf ci) : (wr_fs Z ci I L R j)[k]? = some (wr_fv Z I L R j (wr_kd (wr_ty ci k)) k) := by simp [wr_fs, h]
theorem wr_fs_set {Z : wr_Z} {ci : Nat} {I I' : wr_TI} {L L' : wr_TL} {R R' : wr_TR} {j k : Nat} {v : Value} (hv : wr_fv Z I' L' R' j (wr_kd (wr_ty ci k)) k = v) (ho : ∀ i : Nat, i ≠ k → I' j i = I j i ∧ L' j i = L j i ∧ R' j i = R j i) : wr_fs Z ci I' L' R' j = (wr_fs Z ci I L R j).set k v := by
  subst hv
  apply List.ext_getElem?
  intro i
  by_cases hi : i < wr_nf ci
  · rw [wr_fs_get hi]
    by_cases hik : i = k
    · subst hik
      rw [List.getElem?_set_self (by rw [wr_fs_len]; exact hi)]
    · rw [List.getElem?_set_ne (Ne.symm hik), wr_fs_get hi]
      obtain ⟨h1, h2, h3⟩ := ho i hik
      simp only [wr_fv]
      rw [h1, h2, h3]
  · rw [List.getElem?_eq_none (by rw [wr_fs_len]; omega), List.getElem?_eq_none (by rw [List.length_set, wr_fs_len]; omega)]
/-- locals: what is known of them, by their places -/
def wr_en (Z : wr_Z) : List (Option Value) → Nat → List (Nat × Value)
  | [], _ => []
  | none :: t, i => wr_en Z t (i + 1)
  | some v :: t, i => (i, wr_cv Z v) :: wr_en Z t (i + 1)
theorem wr_en_mem {Z : wr_Z} : ∀ {ls : List (Option Value)} {b i : Nat} {v : Value}, ls[i]? = some (some v) → (b + i, wr_cv Z v) ∈ wr_en Z ls b := by
  intro ls
  induction ls with
  | nil => intro b i v h; simp at h
  | cons x t ih =>
    intro b i v h
    match i, h with
    | 0, h =>
      simp at h
      subst h
      simp [wr_en]
    | i + 1, h =>
      simp at h
      have := ih (b := b + 1) h
      rw [show b + 1 + i = b + (i + 1) by omega] at this
      cases x with
      | none => simpa [wr_en] using this
      | some w => simp only [wr_en]; exact List.mem_cons_of_mem _ this
theorem wr_en_inv {Z : wr_Z} : ∀ {ls : List (Option Value)} {b : Nat} {q : Nat × Value}, q ∈ wr_en Z ls b → ∃ (i : Nat) (v : Value), q = (b + i, wr_cv Z v) ∧ ls[i]? = some (some v) := by
  intro ls
  induction ls with
  | nil => intro b q h; simp [wr_en] at h
  | cons x t ih =>
    intro b q h
    cases x with
    | none =>
      simp only [wr_en] at h
      obtain ⟨i, v, h1, h2⟩ := ih h
      exact ⟨i + 1, v, by rw [h1]; congr 1; omega, by simpa using h2⟩
    | some w =>
      simp only [wr_en] at h
      rcases List.mem_cons.mp h with h | h
      · exact ⟨0, w, by simpa using h, by simp⟩
      · obtain ⟨i, v, h1, h2⟩ := ih h
        exact ⟨i + 1, v, by rw [h1]; congr 1; omega, by simpa using h2⟩
theorem wr_cv_cat (Z : wr_Z) (v : Value) : (wr_cv Z v).category = v.category := by cases v <;> rfl
def wr_wide (o : Option (Option Value)) : Bool := match o with
  | some (some (.long _)) => true
  | some (some (.double _)) => true
  | _ => false
/-- a store of one word, of two words -/
def wr_s1 (ls : List (Option Value)) (i : Nat) (v : Value) : List (Option Value) := match i with
  | 0 => ls.set 0 (some v)
  | k + 1 => bif wr_wide ls[k]? then (ls.set k none).set (k + 1) (some v) else ls.set (k + 1) (some v)
def wr_s2 (ls : List (Option Value)) (i : Nat) (v : Value) : List (Option Value) := (wr_s1 ls i v).set (i + 1) none
theorem wr_s1_get {ls : List (Option Value)} {i j : Nat} {v w : Value} (h : (wr_s1 ls i v)[j]? = some (some w)) : (j = i ∧ w = v) ∨ (j ≠ i ∧ ls[j]? = some (some w) ∧ ¬ (j + 1 = i ∧ w.category = 2)) := by
  have key : ∀ l : List (Option Value), (l.set i (some v))[j]? = some (some w) → (j = i ∧ w = v) ∨ (j ≠ i ∧ l[j]? = some (some w)) := by
    intro l h
    by_cases hij : i = j
    · subst hij
      left
      have hl : i < l.length := by
        have := (List.getElem?_eq_some_iff.mp h).1
        simpa using this
      rw [List.getElem?_set_self hl] at h
      exact ⟨rfl, by simpa using h.symm⟩
    · rw [List.getElem?_set_ne hij] at h
      exact Or.inr ⟨Ne.symm hij, h⟩
  cases i with
  | zero =>
    rcases key ls h with h1 | h1
    · exact Or.inl h1
    · exact Or.inr ⟨h1.1, h1.2, fun q => by omega⟩
  | succ k =>
    simp only [wr_s1] at h
    cases hw : wr_wide ls[k]? with
    | true =>
      rw [hw] at h
      rcases key _ h with h1 | ⟨h1, h2⟩
      · exact Or.inl h1
      · right
        by_cases hkj : k = j
        · subst hkj
          exfalso
          have hl : k < (ls.set k none).length := (List.getElem?_eq_some_iff.mp h2).1
          rw [List.getElem?_set_self (by simpa using hl)] at h2
          simp at h2
        · rw [List.getElem?_set_ne hkj] at h2
          exact ⟨h1, h2, fun q => by omega⟩
    | false =>
      rw [hw] at h
      rcases key _ h with h1 | ⟨h1, h2⟩
      · exact Or.inl h1
      · refine Or.inr ⟨h1, h2, fun q => ?_⟩
        have hk : j = k := by omega
        subst hk
        rw [h2] at hw
        cases w <;> simp [wr_wide, Value.category] at hw q
theorem wr_lh_s1 {Z : wr_Z} {la : Array Slot} {n i : Nat} {ls : List (Option Value)} {v : Value} (h : lv_has la n ((i, wr_cv Z v) :: (wr_en Z ls 0).filter (fun q => !(q.1 == i) && !(q.1 + 1 == i && q.2.category == 2)))) : lv_has la n (wr_en Z (wr_s1 ls i v) 0) := by
  refine ⟨h.1, h.2.1, fun q hq => h.2.2 q ?_⟩
  obtain ⟨j, w, rfl, hj⟩ := wr_en_inv hq
  rcases wr_s1_get hj with ⟨rfl, rfl⟩ | ⟨h1, h2, h3⟩
  · simp
  · refine List.mem_cons_of_mem _ (List.mem_filter.mpr ⟨wr_en_mem h2, ?_⟩)
    have e1 : (0 + j == i) = false := by simpa using h1
    rw [e1]
    simp only [wr_cv_cat]
    by_cases hz : j + 1 = i
    · have : ¬ w.category = 2 := fun z => h3 ⟨hz, z⟩
      simp [this]
    · simp [hz]
theorem wr_lh_s2 {Z : wr_Z} {la : Array Slot} {n i : Nat} {ls : List (Option Value)} {v : Value} (h : lv_has la n ((i, wr_cv Z v) :: (wr_en Z ls 0).filter (fun q => !(q.1 == i) && (!(q.1 == i + 1) && !(q.1 + 1 == i && q.2.category == 2))))) : lv_has la n (wr_en Z (wr_s2 ls i v) 0) := by
  refine ⟨h.1, h.2.1, fun q hq => h.2.2 q ?_⟩
  obtain ⟨j, w, rfl, hj⟩ := wr_en_inv hq
  have hne : j ≠ i + 1 := by
    intro e
    subst e
    have hl : i + 1 < ((wr_s1 ls i v).set (i + 1) none).length := (List.getElem?_eq_some_iff.mp hj).1
    rw [show wr_s2 ls i v = (wr_s1 ls i v).set (i + 1) none from rfl, List.getElem?_set_self (by simpa using hl)] at hj
    simp at hj
  rw [show wr_s2 ls i v = (wr_s1 ls i v).set (i + 1) none from rfl, List.getElem?_set_ne (Ne.symm hne)] at hj
  rcases wr_s1_get hj with ⟨rfl, rfl⟩ | ⟨h1, h2, h3⟩
  · simp
  · refine List.mem_cons_of_mem _ (List.mem_filter.mpr ⟨wr_en_mem h2, ?_⟩)
    have e1 : (0 + j == i) = false := by simpa using h1
    have e2 : (0 + j == i + 1) = false := by simpa using hne
    rw [e1, e2]
    simp only [wr_cv_cat]
    by_cases hz : j + 1 = i
    · have : ¬ w.category = 2 := fun z => h3 ⟨hz, z⟩
      simp [this]
    · simp [hz]
