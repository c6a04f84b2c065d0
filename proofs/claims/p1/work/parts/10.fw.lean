/-! THE ABSTRACT MACHINE. A heap is a list of shapes (an array's type and length; an object's class and its fields, of which references are fixed in the shape) and a store of numbers. Reference i is the cell B + i; .retAddr c stands for constant c (a text, a table), which lies at kA c. -/
abbrev fwS : Type := (Nat → Nat → Int32) × (Nat → Nat → Int64)
def fwI (σ : fwS) (i k : Nat) (v : Int32) : fwS := (fun a b => if a = i ∧ b = k then v else σ.1 a b, σ.2)
def fwL (σ : fwS) (i k : Nat) (v : Int64) : fwS := (σ.1, fun a b => if a = i ∧ b = k then v else σ.2 a b)
def fwA (σ : fwS) (i : Nat) (f : Nat → Int32) : fwS := (fun a b => if a = i then f b else σ.1 a b, σ.2)
def fwAl (σ : fwS) (i : Nat) (f : Nat → Int64) : fwS := (σ.1, fun a b => if a = i then f b else σ.2 a b)
abbrev fwE : Type := (FieldType × Nat) ⊕ (Nat × List Value)
/-- where things lie: classes, slots, array classes, the first cell, the constants -/
abbrev fwZ : Type := (Nat → ClassId) × (Nat → Nat → Nat) × (FieldType → ClassId) × Nat × (Nat → Nat)
abbrev fwZ.B (Z : fwZ) : Nat := Z.2.2.2.1
abbrev fwZ.D (Z : fwZ) : va_G := (Z.1, Z.2.1)
def fwV (Z : fwZ) (v : Value) : Value := match v with
  | .ref i => .ref (Z.2.2.2.1 + i)
  | .retAddr c => .ref (Z.2.2.2.2 c)
  | .int x => .int x
  | .long x => .long x
  | .float x => .float x
  | .double x => .double x
  | .null => .null
theorem fwV_cat (Z : fwZ) (v : Value) : (fwV Z v).category = v.category := by cases v <;> rfl
def fwFv (Z : fwZ) (σ : fwS) (i k : Nat) (v : Value) : Value := match v with
  | .int _ => .int (σ.1 i k)
  | .long _ => .long (σ.2 i k)
  | v => fwV Z v
/-- a field's value in the machine's own words -/
def fwGv (σ : fwS) (i k : Nat) (v : Value) : Value := match v with
  | .int _ => .int (σ.1 i k)
  | .long _ => .long (σ.2 i k)
  | v => v
theorem fwFv_eq (Z : fwZ) (σ : fwS) (i k : Nat) (v : Value) : fwFv Z σ i k v = fwV Z (fwGv σ i k v) := by cases v <;> rfl
def fwX (Z : fwZ) (σ : fwS) (i : Nat) (e : fwE) : va_E := match e with
  | .inl (ty, n) => .inl (Z.2.2.1 ty, n, match ty with | .long => .inr (.inl (σ.2 i)) | _ => .inl (σ.1 i))
  | .inr (ci, ts) => .inr (ci, ts.mapIdx (fun k v => fwFv Z σ i k v))
def fwW (Z : fwZ) (sh : List fwE) (σ : fwS) : va_W := sh.mapIdx (fun i e => (Z.B + i, fwX Z σ i e))
theorem fwW_get (Z : fwZ) (sh : List fwE) (σ : fwS) (i : Nat) : (fwW Z sh σ)[i]? = (sh[i]?).map (fun e => (Z.B + i, fwX Z σ i e)) := by
  unfold fwW
  rw [List.getElem?_mapIdx]
theorem fwW_at {Z : fwZ} {sh : List fwE} {σ : fwS} {i : Nat} {e : fwE} (h : sh[i]? = some e) : (fwW Z sh σ)[i]? = some (Z.B + i, fwX Z σ i e) := by
  rw [fwW_get, h]; rfl
theorem fwW_D (Z : fwZ) (sh : List fwE) (σ : fwS) : va_D (fun q => Z.B ≤ q) (fwW Z sh σ) := by
  refine ⟨fun i j p q hi hj hpq => ?_, fun k q hk => ?_⟩
  · rw [fwW_get] at hi hj
    cases h1 : sh[i]? with
    | none => rw [h1] at hi; cases hi
    | some e =>
      cases h2 : sh[j]? with
      | none => rw [h2] at hj; cases hj
      | some f =>
        rw [h1] at hi; rw [h2] at hj
        cases hi; cases hj
        have h3 : Z.B + i = Z.B + j := hpq
        omega
  · rw [fwW_get] at hk
    cases h1 : sh[k]? with
    | none => rw [h1] at hk; cases hk
    | some e =>
      rw [h1] at hk
      cases hk
      exact Nat.le_add_right _ _
/-- what the store's change at one cell does to the world -/
theorem fwW_set {Z : fwZ} {sh sh' : List fwE} {σ σ' : fwS} {i : Nat} {x : va_E} (hl : sh'.length = sh.length) (hi : i < sh.length) (hx : ∀ e', sh'[i]? = some e' → fwX Z σ' i e' = x) (ho : ∀ j, j ≠ i → sh'[j]? = sh[j]? ∧ ∀ e', sh[j]? = some e' → fwX Z σ' j e' = fwX Z σ j e') : (fwW Z sh σ).set i (Z.B + i, x) = fwW Z sh' σ' := by
  apply List.ext_getElem?
  intro j
  by_cases hj : j = i
  · subst hj
    rw [List.getElem?_set_self (by unfold fwW; rw [List.length_mapIdx]; exact hi), fwW_get]
    have : j < sh'.length := by omega
    rw [List.getElem?_eq_getElem this]
    show some (Z.B + j, x) = some (Z.B + j, fwX Z σ' j _)
    rw [hx _ (List.getElem?_eq_getElem this)]
  · rw [List.getElem?_set_ne (Ne.symm hj), fwW_get, fwW_get]
    obtain ⟨h1, h2⟩ := ho j hj
    rw [h1]
    cases h3 : sh[j]? with
    | none => rfl
    | some e' =>
      show some (Z.B + j, fwX Z σ j e') = some (Z.B + j, fwX Z σ' j e')
      rw [h2 e' h3]
theorem fwI_ne {σ : fwS} {i k j b : Nat} {v : Int32} (h : j ≠ i) : (fwI σ i k v).1 j b = σ.1 j b := by
  show (if j = i ∧ b = k then v else σ.1 j b) = _
  rw [if_neg (fun q => h q.1)]
theorem fwI_ne2 {σ : fwS} {i k b : Nat} {v : Int32} (h : b ≠ k) : (fwI σ i k v).1 i b = σ.1 i b := by
  show (if i = i ∧ b = k then v else σ.1 i b) = _
  rw [if_neg (fun q => h q.2)]
theorem fwI_eq {σ : fwS} {i k : Nat} {v : Int32} : (fwI σ i k v).1 i k = v := by
  show (if i = i ∧ k = k then v else σ.1 i k) = _
  rw [if_pos ⟨rfl, rfl⟩]
theorem fwL_ne {σ : fwS} {i k j b : Nat} {v : Int64} (h : j ≠ i) : (fwL σ i k v).2 j b = σ.2 j b := by
  show (if j = i ∧ b = k then v else σ.2 j b) = _
  rw [if_neg (fun q => h q.1)]
theorem fwL_ne2 {σ : fwS} {i k b : Nat} {v : Int64} (h : b ≠ k) : (fwL σ i k v).2 i b = σ.2 i b := by
  show (if i = i ∧ b = k then v else σ.2 i b) = _
  rw [if_neg (fun q => h q.2)]
theorem fwL_eq {σ : fwS} {i k : Nat} {v : Int64} : (fwL σ i k v).2 i k = v := by
  show (if i = i ∧ k = k then v else σ.2 i k) = _
  rw [if_pos ⟨rfl, rfl⟩]
/-- a cell's picture depends on the store at that cell alone -/
theorem fwX_congr {Z : fwZ} {σ σ' : fwS} {j : Nat} (h1 : ∀ b, σ'.1 j b = σ.1 j b) (h2 : ∀ b, σ'.2 j b = σ.2 j b) (e : fwE) : fwX Z σ' j e = fwX Z σ j e := by
  have g1 : σ'.1 j = σ.1 j := funext h1
  have g2 : σ'.2 j = σ.2 j := funext h2
  rcases e with ⟨ty, n⟩ | ⟨ci, ts⟩
  · simp only [fwX, g1, g2]
  · show Sum.inr _ = Sum.inr _
    congr 2
    apply List.ext_getElem?
    intro k
    rw [List.getElem?_mapIdx, List.getElem?_mapIdx]
    cases ts[k]? with
    | none => rfl
    | some v => cases v <;> simp [fwFv, h1, h2]
/-- an int field is put -/
theorem fwW_putI {Z : fwZ} {sh : List fwE} {σ : fwS} {i k ci : Nat} {ts : List Value} {x0 v : Int32} (hs : sh[i]? = some (.inr (ci, ts))) (hk : ts[k]? = some (.int x0)) : (fwW Z sh σ).set i (Z.B + i, .inr (ci, (ts.mapIdx (fun k v => fwFv Z σ i k v)).set k (.int v))) = fwW Z sh (fwI σ i k v) := by
  have hi : i < sh.length := (List.getElem?_eq_some_iff.mp hs).1
  refine fwW_set rfl hi (fun e' he => ?_) (fun j hj => ⟨rfl, fun e' _ => fwX_congr (σ := σ) (σ' := fwI σ i k v) (fun b => fwI_ne hj) (fun b => rfl) e'⟩)
  rw [hs] at he
  cases he
  show Sum.inr _ = Sum.inr _
  congr 2
  apply List.ext_getElem?
  intro q
  have hlen : k < ts.length := (List.getElem?_eq_some_iff.mp hk).1
  by_cases hq : q = k
  · subst hq
    rw [List.getElem?_set_self (by rw [List.length_mapIdx]; exact hlen), List.getElem?_mapIdx, hk]
    show some (Value.int ((fwI σ i q v).1 i q)) = _
    rw [fwI_eq]
  · rw [List.getElem?_set_ne (Ne.symm hq), List.getElem?_mapIdx, List.getElem?_mapIdx]
    cases ts[q]? with
    | none => rfl
    | some w => cases w <;> simp [fwFv, fwI_ne2 hq] <;> rfl
/-- a long field is put -/
theorem fwW_putL {Z : fwZ} {sh : List fwE} {σ : fwS} {i k ci : Nat} {ts : List Value} {x0 v : Int64} (hs : sh[i]? = some (.inr (ci, ts))) (hk : ts[k]? = some (.long x0)) : (fwW Z sh σ).set i (Z.B + i, .inr (ci, (ts.mapIdx (fun k v => fwFv Z σ i k v)).set k (.long v))) = fwW Z sh (fwL σ i k v) := by
  have hi : i < sh.length := (List.getElem?_eq_some_iff.mp hs).1
  refine fwW_set rfl hi (fun e' he => ?_) (fun j hj => ⟨rfl, fun e' _ => fwX_congr (σ := σ) (σ' := fwL σ i k v) (fun b => rfl) (fun b => fwL_ne hj) e'⟩)
  rw [hs] at he
  cases he
  show Sum.inr _ = Sum.inr _
  congr 2
  apply List.ext_getElem?
  intro q
  have hlen : k < ts.length := (List.getElem?_eq_some_iff.mp hk).1
  by_cases hq : q = k
  · subst hq
    rw [List.getElem?_set_self (by rw [List.length_mapIdx]; exact hlen), List.getElem?_mapIdx, hk]
    show some (Value.long ((fwL σ i q v).2 i q)) = _
    rw [fwL_eq]
  · rw [List.getElem?_set_ne (Ne.symm hq), List.getElem?_mapIdx, List.getElem?_mapIdx]
    cases ts[q]? with
    | none => rfl
    | some w => cases w <;> simp [fwFv, fwL_ne2 hq] <;> rfl
/-- a reference field is put: the shape changes -/
theorem fwW_putR {Z : fwZ} {sh : List fwE} {σ : fwS} {i k ci : Nat} {ts : List Value} {v : Value} (hs : sh[i]? = some (.inr (ci, ts))) (hv : fwFv Z σ i k v = fwV Z v) : (fwW Z sh σ).set i (Z.B + i, .inr (ci, (ts.mapIdx (fun k v => fwFv Z σ i k v)).set k (fwV Z v))) = fwW Z (sh.set i (.inr (ci, ts.set k v))) σ := by
  have hi : i < sh.length := (List.getElem?_eq_some_iff.mp hs).1
  refine fwW_set (by rw [List.length_set]) hi (fun e' he => ?_) (fun j hj => ⟨List.getElem?_set_ne (Ne.symm hj), fun e' _ => rfl⟩)
  rw [List.getElem?_set_self hi] at he
  cases he
  show Sum.inr _ = Sum.inr _
  congr 2
  apply List.ext_getElem?
  intro q
  rw [List.getElem?_mapIdx]
  by_cases hq : q = k
  · subst hq
    by_cases hl : q < ts.length
    · rw [List.getElem?_set_self hl, List.getElem?_set_self (by rw [List.length_mapIdx]; exact hl)]
      show some (fwFv Z σ i q v) = _
      rw [hv]
    · rw [List.getElem?_eq_none (by rw [List.length_set]; omega), List.getElem?_eq_none (by rw [List.length_set, List.length_mapIdx]; omega)]
      rfl
  · rw [List.getElem?_set_ne (Ne.symm hq), List.getElem?_set_ne (Ne.symm hq), List.getElem?_mapIdx]
/-- an array of small numbers gets an element -/
theorem fwW_arr {Z : fwZ} {sh : List fwE} {σ : fwS} {i n : Nat} {ty : FieldType} {f : Nat → Int32} (hs : sh[i]? = some (.inl (ty, n))) (ht : ty ≠ .long) : (fwW Z sh σ).set i (Z.B + i, .inl (Z.2.2.1 ty, n, .inl f)) = fwW Z sh (fwA σ i f) := by
  have hi : i < sh.length := (List.getElem?_eq_some_iff.mp hs).1
  refine fwW_set rfl hi (fun e' he => ?_) (fun j hj => ⟨rfl, fun e' _ => fwX_congr (σ := σ) (σ' := fwA σ i f) (fun b => ?_) (fun b => rfl) e'⟩)
  · rw [hs] at he
    cases he
    have g : (fwA σ i f).1 i = f := funext (fun b => if_pos rfl)
    cases ty <;> first | (exact absurd rfl ht) | (simp only [fwX, g])
  · show (if j = i then f b else σ.1 j b) = _
    rw [if_neg hj]
theorem fwW_arrL {Z : fwZ} {sh : List fwE} {σ : fwS} {i n : Nat} {f : Nat → Int64} (hs : sh[i]? = some (.inl (.long, n))) : (fwW Z sh σ).set i (Z.B + i, .inl (Z.2.2.1 .long, n, .inr (.inl f))) = fwW Z sh (fwAl σ i f) := by
  have hi : i < sh.length := (List.getElem?_eq_some_iff.mp hs).1
  refine fwW_set rfl hi (fun e' he => ?_) (fun j hj => ⟨rfl, fun e' _ => fwX_congr (σ := σ) (σ' := fwAl σ i f) (fun b => rfl) (fun b => ?_) e'⟩)
  · rw [hs] at he
    cases he
    have g : (fwAl σ i f).2 i = f := funext (fun b => if_pos rfl)
    simp only [fwX, g]
  · show (if j = i then f b else σ.2 j b) = _
    rw [if_neg hj]
theorem fwA_upd (σ : fwS) (i k : Nat) (v : Int32) : fwA σ i (upd (σ.1 i) k v) = fwI σ i k v := by
  refine Prod.ext (funext fun a => funext fun b => ?_) rfl
  show (if a = i then (if b = k then v else σ.1 i b) else σ.1 a b) = if a = i ∧ b = k then v else σ.1 a b
  by_cases ha : a = i
  · subst ha
    by_cases hb : b = k
    · rw [if_pos rfl, if_pos hb, if_pos ⟨rfl, hb⟩]
    · rw [if_pos rfl, if_neg hb, if_neg (fun q => hb q.2)]
  · rw [if_neg ha, if_neg (fun q => ha q.1)]
theorem fwAl_upd (σ : fwS) (i k : Nat) (v : Int64) : fwAl σ i (vp_updL (σ.2 i) k v) = fwL σ i k v := by
  refine Prod.ext rfl (funext fun a => funext fun b => ?_)
  show (if a = i then (if b = k then v else σ.2 i b) else σ.2 a b) = if a = i ∧ b = k then v else σ.2 a b
  by_cases ha : a = i
  · subst ha
    by_cases hb : b = k
    · rw [if_pos rfl, if_pos hb, if_pos ⟨rfl, hb⟩]
    · rw [if_pos rfl, if_neg hb, if_neg (fun q => hb q.2)]
  · rw [if_neg ha, if_neg (fun q => ha q.1)]
