/-! THE JUDGEMENT fwG over the abstract machine: from pc with locals ls, stack st, shapes sh and store σ, the method M comes to its end with Post -/
/-- a method: its name, its code, its locals, its answer's type -/
abbrev fwM : Type := MethodName × ByteArray × Nat × Option FieldType
def fwWs (M : fwM) : List Cond := .code M.1 M.2.1 M.2.2.1 M.2.2.2 :: fwT
def fwRm (d mc ms : Nat) : Room := { frames := d, cells := mc, slots := ms, locals := 64 * d }
def fwTys (Z : fwZ) : List (ClassId × FieldType) := fwAT.map (fun t => (Z.2.2.1 t, t))
abbrev fwAq (Z : fwZ) : Nat → Prop := fun q => Z.2.2.2.1 ≤ q
theorem fwTys_at (Z : fwZ) {t : FieldType} (h : t ∈ fwAT) : ∃ t0 : Nat, (fwTys Z)[t0]? = some (Z.2.2.1 t, t) := by
  obtain ⟨i, hi⟩ := List.getElem?_of_mem h
  exact ⟨i, by unfold fwTys; rw [List.getElem?_map, hi]; rfl⟩
def fwFit (sh : List fwE) (σ : fwS) : Prop := ∀ (i n : Nat), sh[i]? = some (.inl (.byte, n)) → ∀ j, fits .byte (.int (σ.1 i j)) = true
def fwOk (Z : fwZ) (sh : List fwE) (σ : fwS) (H : Heap) : Prop := va_P Z.D fwCl (fwW Z sh σ) H ∧ H.size = Z.2.2.2.1 + sh.length ∧ fwFit sh σ
/-- locals by their places; none: not told -/
def fwLv (Z : fwZ) (Ls : Array Slot) (nL : Nat) (ls : List (Option Value)) : Prop := lv_has Ls nL [] ∧ ls.length = nL ∧ ∀ (i : Nat) (v : Value), ls[i]? = some (some v) → Ls[i]? = some (.val (fwV Z v))
def fwPl (Z : fwZ) (ls : List (Option Value)) : List (Nat × Value) := (List.range ls.length).filterMap (fun i => (ls.getD i none).map (fun v => (i, fwV Z v)))
theorem fwPl_mem {Z : fwZ} {ls : List (Option Value)} {q : Nat × Value} : q ∈ fwPl Z ls ↔ ∃ v, ls[q.1]? = some (some v) ∧ q.2 = fwV Z v := by
  unfold fwPl
  rw [List.mem_filterMap]
  constructor
  · rintro ⟨i, hi, h⟩
    rw [List.mem_range] at hi
    rw [List.getD_eq_getElem?_getD, List.getElem?_eq_getElem hi] at h
    cases hv : ls[i] with
    | none => simp [hv] at h
    | some v =>
      simp [hv] at h
      subst h
      exact ⟨v, by rw [List.getElem?_eq_getElem hi, hv], rfl⟩
  · rintro ⟨v, h1, h2⟩
    obtain ⟨hi, h3⟩ := List.getElem?_eq_some_iff.mp h1
    refine ⟨q.1, List.mem_range.mpr hi, ?_⟩
    rw [List.getD_eq_getElem?_getD, h1]
    show some (q.1, fwV Z v) = some q
    rw [← h2]
theorem fwLv.has {Z : fwZ} {Ls : Array Slot} {nL : Nat} {ls : List (Option Value)} (h : fwLv Z Ls nL ls) : lv_has Ls nL (fwPl Z ls) := by
  refine ⟨h.1.1, h.1.2.1, fun q hq => ?_⟩
  obtain ⟨v, h1, h2⟩ := fwPl_mem.mp hq
  rw [h2]
  exact h.2.2 q.1 v h1
def fwKill (ls : List (Option Value)) (i : Nat) : List (Option Value) := match i with
  | 0 => ls
  | j + 1 => match ls[j]? with
    | some (some (.long _)) => ls.set j none
    | some (some (.double _)) => ls.set j none
    | _ => ls
def fwSet1 (ls : List (Option Value)) (i : Nat) (v : Value) : List (Option Value) := (fwKill ls i).set i (some v)
def fwSet2 (ls : List (Option Value)) (i : Nat) (v : Value) : List (Option Value) := ((fwKill ls i).set i (some v)).set (i + 1) none
theorem fwKill_len (ls : List (Option Value)) (i : Nat) : (fwKill ls i).length = ls.length := by
  unfold fwKill
  split
  · rfl
  · split <;> simp
theorem fwKill_some {ls : List (Option Value)} {i j : Nat} {v : Value} (h : (fwKill ls i)[j]? = some (some v)) : ls[j]? = some (some v) ∧ ¬ (j + 1 = i ∧ v.category = 2) := by
  cases i with
  | zero => exact ⟨h, fun q => by omega⟩
  | succ k =>
    have key : ∀ w : Value, ls[k]? = some (some w) → w.category = 2 → (fwKill ls (k + 1)) = ls.set k none := by
      intro w hw hc
      cases w <;> simp [Value.category] at hc <;> simp [fwKill, hw]
    by_cases hk : ∃ w : Value, ls[k]? = some (some w) ∧ w.category = 2
    · obtain ⟨w, hw, hc⟩ := hk
      rw [key w hw hc] at h
      by_cases hj : j = k
      · subst hj
        rw [List.getElem?_set_self (List.getElem?_eq_some_iff.mp hw).1] at h
        cases h
      · rw [List.getElem?_set_ne (Ne.symm hj)] at h
        exact ⟨h, fun q => hj (by omega)⟩
    · have he : fwKill ls (k + 1) = ls := by
        cases hl : ls[k]? with
        | none => simp [fwKill, hl]
        | some o =>
          cases o with
          | none => simp [fwKill, hl]
          | some w =>
            cases w with
            | long x => exact absurd ⟨_, hl, rfl⟩ hk
            | double x => exact absurd ⟨_, hl, rfl⟩ hk
            | _ => simp [fwKill, hl]
      rw [he] at h
      refine ⟨h, fun q => hk ⟨v, ?_, q.2⟩⟩
      have : j = k := by omega
      subst this
      exact h
theorem fwLv_set1 {Z : fwZ} {Ls' : Array Slot} {nL i : Nat} {ls : List (Option Value)} {v : Value} (h0 : ls.length = nL) (hi : i < ls.length) (h : lv_has Ls' nL ((i, fwV Z v) :: (fwPl Z ls).filter (fun q => !(q.1 == i) && !(q.1 + 1 == i && q.2.category == 2)))) : fwLv Z Ls' nL (fwSet1 ls i v) := by
  refine ⟨⟨h.1, h.2.1, fun q hq => by cases hq⟩, by rw [← h0]; unfold fwSet1; rw [List.length_set, fwKill_len], fun j w hw => ?_⟩
  unfold fwSet1 at hw
  by_cases hj : j = i
  · subst hj
    have hlen : j < (fwKill ls j).length := by
      unfold fwKill
      split
      · exact hi
      · split <;> simp <;> omega
    rw [List.getElem?_set_self hlen] at hw
    cases hw
    exact h.2.2 (j, fwV Z v) List.mem_cons_self
  · rw [List.getElem?_set_ne (Ne.symm hj)] at hw
    obtain ⟨h1, h2⟩ := fwKill_some hw
    refine h.2.2 (j, fwV Z w) (List.mem_cons_of_mem _ (List.mem_filter.mpr ⟨fwPl_mem.mpr ⟨w, h1, rfl⟩, ?_⟩))
    simp only [Bool.and_eq_true, Bool.not_eq_true', Bool.and_eq_false_iff, beq_eq_false_iff_ne, ne_eq]
    refine ⟨hj, ?_⟩
    by_cases hc : j + 1 = i
    · right
      intro q
      rw [fwV_cat] at q
      exact h2 ⟨hc, q⟩
    · left
      exact hc
theorem fwLv_set2 {Z : fwZ} {Ls' : Array Slot} {nL i : Nat} {ls : List (Option Value)} {v : Value} (h0 : ls.length = nL) (hi : i + 1 < ls.length) (h : lv_has Ls' nL ((i, fwV Z v) :: (fwPl Z ls).filter (fun q => !(q.1 == i) && (!(q.1 == i + 1) && !(q.1 + 1 == i && q.2.category == 2))))) : fwLv Z Ls' nL (fwSet2 ls i v) := by
  refine ⟨⟨h.1, h.2.1, fun q hq => by cases hq⟩, by rw [← h0]; unfold fwSet2; rw [List.length_set, List.length_set, fwKill_len], fun j w hw => ?_⟩
  unfold fwSet2 at hw
  have hlen : (fwKill ls i).length = ls.length := by
    unfold fwKill
    split
    · rfl
    · split <;> simp
  by_cases hj : j = i
  · subst hj
    rw [List.getElem?_set_ne (by omega), List.getElem?_set_self (by omega)] at hw
    cases hw
    exact h.2.2 (j, fwV Z v) List.mem_cons_self
  · by_cases hj2 : j = i + 1
    · subst hj2
      rw [List.getElem?_set_self (by rw [List.length_set]; omega)] at hw
      cases hw
    · rw [List.getElem?_set_ne (Ne.symm hj2), List.getElem?_set_ne (Ne.symm hj)] at hw
      obtain ⟨h1, h2⟩ := fwKill_some hw
      refine h.2.2 (j, fwV Z w) (List.mem_cons_of_mem _ (List.mem_filter.mpr ⟨fwPl_mem.mpr ⟨w, h1, rfl⟩, ?_⟩))
      simp only [Bool.and_eq_true, Bool.not_eq_true', Bool.and_eq_false_iff, beq_eq_false_iff_ne, ne_eq]
      refine ⟨hj, hj2, ?_⟩
      by_cases hc : j + 1 = i
      · right
        intro q
        rw [fwV_cat] at q
        exact h2 ⟨hc, q⟩
      · left
        exact hc
