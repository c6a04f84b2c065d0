/-! System.arraycopy of no bytes -/
section CPY
variable {l : Launch} {Z : fwZ} {M : fwM} {d mc ms : Nat} {Post : fwPost} {nc ns pc : Nat} {ls : List (Option Value)} {st r : List Value} {sh : List fwE} {σ : fwS}
theorem fwg_copy0 {i j n0 n1 idx : Nat} (hi : sh[i]? = some (.inl (.byte, n0))) (hj : sh[j]? = some (.inl (.byte, n1))) (hw : ∀ w ∈ ([.methodLink M.1.cls idx arraycopyName, .native arraycopyName, .static arraycopyName, .initialized "java/lang/System"] : List Cond), w ∈ fwT) (hd : decode M.2.1 pc = .ok (.invokestatic idx, 3)) (hR : 1 ≤ d) (hcat : (r.map fun v => v.category).sum ≤ 8) (k : fwG l Z M d mc ms Post nc ns (pc + 3) ls r sh σ) : fwG l Z M d mc ms Post nc ns pc ls (.int 0 :: .int 0 :: .ref j :: .int 0 :: .ref i :: r) sh σ := by
  intro p e s m args below meth c H locs Ls hE hO hS hL
  obtain ⟨t0, ht0⟩ := fwTys_at Z (t := .byte) (by decide)
  have hK := hE.2.2.2.2.2.2.2.1
  have hW : ∀ w ∈ ([.methodLink M.1.cls idx arraycopyName, .native arraycopyName, .static arraycopyName, .initialized "java/lang/System"] : List Cond), w.before args s = true := fun w h => hE.2.2.2.2.2.1 _ (List.mem_cons_of_mem _ (hw w h))
  intro T hT X
  have hc0 : H[Z.B + i]? = some (vp_cell (Z.2.2.1 .byte) (n0, .inl (σ.1 i))) := hO.1 i _ (fwW_at hi)
  have hc1 : H[Z.B + j]? = some (vp_cell (Z.2.2.1 .byte) (n1, .inl (σ.1 j))) := hO.1 j _ (fwW_at hj)
  obtain ⟨-, k0, hk0, cm0, hkk0⟩ := (hK.2 t0 _ ht0).1 n0 (fun q => .int (σ.1 i q))
  obtain ⟨-, k1, hk1, cm1, hkk1⟩ := (hK.2 t0 _ ht0).1 n1 (fun q => .int (σ.1 j q))
  obtain ⟨vm', X', step⟩ := X.arraycopy (index := idx) hE.1 hE.2.2.2.2.1 (hW _ (by simp)) (hW _ (by simp)) (hW _ (by simp)) (hW _ (by simp)) (src := Z.B + i) (dst := Z.B + j) (cs := vp_cell (Z.2.2.1 .byte) (n0, .inl (σ.1 i))) (cd := vp_cell (Z.2.2.1 .byte) (n1, .inl (σ.1 j))) (srcPos := 0) (destPos := 0) (n := 0) (by rw [hT]; exact hc0) (by rw [hT]; exact hc1)
    (fun _ h => by cases h) (fun _ h => by cases h) (fun h => by cases h) (fun h => by cases h) hk0 hk1 hkk0 hkk1 rfl (by decide) (by decide) (by decide)
    (by show ¬ (0 : Int) + 0 > ((arrV _ _ _).slots.size : Int); omega) (by show ¬ (0 : Int) + 0 > ((arrV _ _ _).slots.size : Int); omega)
    (fun vm₁ _ i hi => absurd hi (by show ¬ i < 0; omega))
    (g := F0 m pc Ls (.int 0 :: .int 0 :: .ref (Z.B + j) :: .int 0 :: .ref (Z.B + i) :: r.map (fwV Z))) rfl (by rw [hE.2.2.2.1]; exact hL.1.1) (rest := r.map (fwV Z)) rfl (by rw [hE.2.1]; exact hd) (by show 1 ≤ d; exact hR) (by
      rw [fwSum]
      show 2 * 0 + _ + (nativeFrameWords "java/lang/System" "arraycopy" 5 + 11) ≤ 64 * d
      have : nativeFrameWords "java/lang/System" "arraycopy" 5 + 11 ≤ 56 := by decide
      omega)
  have e1 : copied (vp_cell (Z.2.2.1 .byte) (n0, .inl (σ.1 i))) (vp_cell (Z.2.2.1 .byte) (n1, .inl (σ.1 j))) 0 0 0 = vp_cell (Z.2.2.1 .byte) (n1, .inl (σ.1 j)) := rfl
  rw [e1] at X' step
  have hheap : ((T.setVm vm').setCell (Z.B + j) (vp_cell (Z.2.2.1 .byte) (n1, .inl (σ.1 j)))).heap = H := by
    show T.heap.setIfInBounds (Z.B + j) _ = H
    rw [hT]
    apply Array.ext_getElem?
    intro q
    rw [Array.getElem?_setIfInBounds]
    split
    · rename_i hq
      subst hq
      split
      · exact hc1.symm
      · rename_i hn
        rw [Array.getElem?_eq_none (by omega)]
    · rfl
  have X2 : Stand p l e (headSpec (fwWs M) (fwRm d mc ms)).room s m args below meth c ((T.setVm vm').setCell (Z.B + j) (vp_cell (Z.2.2.1 .byte) (n1, .inl (σ.1 j)))) (locs ++ []) nc ns := X'
  rw [List.append_nil] at X2
  obtain ⟨t, a1, b1⟩ := k p e s m args below meth c H locs Ls hE hO hS hL _ hheap X2
  exact ⟨t, step t a1, b1⟩
end CPY
