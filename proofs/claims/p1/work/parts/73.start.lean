/-! from the law's entry to its end (laid by wip/whole/t25.py) -/
theorem en_x (x : Int32) : Int32.ofNat x.toBitVec.toNat = x := by
  apply Int32.toBitVec_inj.mp
  show BitVec.ofNat 32 x.toBitVec.toNat = x.toBitVec
  simp
theorem en_room {s : State} {pl : Platform} (h : s.hasRoom pl room_1 = true) : s.hasRoom pl (fwRm 10 57 1436945) = true := by
  have a := State.hasRoom_stack h
  have c := State.hasRoom_real h
  have d := State.hasRoom_heap h
  have z : s.slotsTrue = true := by
    simp only [State.hasRoom, Bool.and_eq_true] at h
    exact h.2
  have e1 : room_1.frames = 2048 := rfl
  have e2 : room_1.cells = 600000 := rfl
  have e3 : room_1.slots = 7302250 := rfl
  have e4 : room_1.locals = 84000 := rfl
  refine State.hasRoom_of (State.hasRoom_plain h) ?_ ?_ ?_ ?_ z ?_
  · show s.frames.length + 10 ≤ pl.maxFrames
    omega
  · show s.localsInUse + 64 * 10 ≤ pl.maxStackSlots
    omega
  · show s.heap.size + 57 ≤ pl.maxCells
    omega
  · show s.slotsUsed + 1436945 ≤ pl.maxSlots
    omega
  · show s.localsInUse + 64 * 10 + stackMargin ≤ realStackBytes / 8
    omega
theorem start6 {p : Program} {e : Env} {s : State} {m : MethodId} {below : List Frame} {meth : Method} {c : Code} (l : Launch) {b L : Nat} {xs : Nat → Int32} (hL : L ≤ 6) (hx : p.tables.exec = Jvm.exec) (hb : c.code = code) (hr : meth.sig.returnType = ret) (hml : c.maxLocals = 4) (hown : s.vm.findClass "MonitorBoardLaw" = some m.cls) (hcode : (Jvm.Cond.code x code maxLocals ret).before #[Value.ref b] s = true) (hts : ∀ w ∈ lw_tbl, w.before #[Value.ref b] s = true) (hX : va_X b L xs s s.heap) (hbl : b < s.heap.size) (hlocks : meth.locks = false) (hnm : meth.name = "law") (hgv : (Jvm.Cond.and given_1 narrow_1).before #[Value.ref b] s = true) (T : State) (hTh : T.heap = s.heap) (X : Stand p l e room_1 s m #[Value.ref b] below meth c T [] 0 0) : ∃ t, Steps p.tables e below (T.setTop (entryFrame m ([Value.ref b] : List Value).toArray 4)) t ∧ ∃ o, t.status = .running ∧ Ended t below o ∧ o = .returned (some (.int 1)) ∧ Framed s o t [] 600000 7302250 := by
  have hA : ∀ a : Nat, a < s.heap.size → ¬ (fun q : Nat => s.heap.size ≤ q) a := fun a h => Nat.not_le.mpr h
  have hF : ∀ c ∈ enF, c.before #[Value.ref b] s = true := flat_of_before narrow_1 (by rw [Cond.before_and, Bool.and_eq_true] at hgv; exact hgv.2)
  obtain ⟨adK, adV, hS, he⟩ := en_S hF hA
  obtain ⟨adT, hT⟩ := en_Tb hF hts hA
  obtain ⟨dC, dI, dA, hK⟩ := en_K hts
  obtain ⟨t5, n5, h5⟩ : ∃ t5 n5 : Nat, (n5 = 0 ∧ va_Z "jdk/internal/util/Preconditions" "SIOOBE_FORMATTER" "Ljava/util/function/BiFunction;" .null (fun q : Nat => s.heap.size ≤ q) s s.heap) ∨ (n5 ≠ 0 ∧ va_Z "jdk/internal/util/Preconditions" "SIOOBE_FORMATTER" "Ljava/util/function/BiFunction;" (.ref t5) (fun q : Nat => s.heap.size ≤ q) s s.heap) := by
    rcases va_Zqof (hts _ (en_zl _ List.mem_cons_self)) (hts _ (en_zl _ (List.mem_cons_of_mem _ List.mem_cons_self))) (hF _ (List.mem_of_getElem? en_z)) hA with h | ⟨t, h⟩
    · exact ⟨0, 0, Or.inl ⟨rfl, h⟩⟩
    · exact ⟨t, 1, Or.inr ⟨by decide, h⟩⟩
  have eN : fwNs = 51 := rfl
  have eT : fwTb.length = 5 := rfl
  obtain ⟨kA, k1, k2, k3, k4, k5, k6, k7, k8⟩ : ∃ kA : Nat → Nat, (∀ c, c < fwNs → kA c = adK c) ∧ (∀ c, fwNs ≤ c → c < fwNs + fwTb.length → kA c = adT c) ∧ (∀ i, i < fwNs → kA (i + 1000) = adV i) ∧ kA 5000 = t5 ∧ kA 5001 = n5 ∧ kA 6000 = b ∧ kA 6001 = L ∧ ∀ j, kA (7000 + j) = (xs j).toBitVec.toNat := by
    refine ⟨fun c => if c < fwNs then adK c else if c < 100 then adT c else if c < 2000 then adV (c - 1000) else if c = 5000 then t5 else if c = 5001 then n5 else if c = 6000 then b else if c = 6001 then L else (xs (c - 7000)).toBitVec.toNat, fun c h => if_pos h, fun c h1 h2 => ?_, fun i h => ?_, ?_, ?_, ?_, ?_, fun j => ?_⟩
    · dsimp only
      rw [if_neg (by omega), if_pos (by omega)]
    · dsimp only
      rw [if_neg (by omega), if_neg (by omega), if_pos (by omega), Nat.add_sub_cancel]
    · rfl
    · rfl
    · rfl
    · rfl
    · dsimp only
      rw [if_neg (by omega), if_neg (by omega), if_neg (by omega), if_neg (by omega), if_neg (by omega), if_neg (by omega), if_neg (by omega), Nat.add_sub_cancel_left]
  have hCn : fwCn (dC, dI, dA, s.heap.size, kA) s s.heap := by
    refine ⟨⟨fun i hi => ?_, fun i j hi hj q => ?_⟩, fun q hq => ?_, fun q hq => ?_, fun q hq => va_Nw.of rfl (hts _ (en_nl _ (List.mem_map.mpr ⟨q, hq, rfl⟩))), en_Si hF hts hA, ?_, ?_⟩
    · have g := hS.1 i hi
      dsimp only
      rw [k1 i hi, k3 i hi]
      exact g
    · have q' : kA i = kA j := q
      rw [k1 i hi, k1 j hj] at q'
      exact hS.2 i j hi hj q'
    · have g := en_Rf hF hts he q hq
      show vk_R q.1 q.2.1 q.2.2.1 (kA q.2.2.2) s
      rw [k1 _ g.1]
      exact g.2
    · obtain ⟨g1, g2, g3, g4⟩ := hT q hq
      show va_Z q.1 q.2.1 "[I" (.ref (kA q.2.2.1)) _ s s.heap ∧ va_T .int (kA q.2.2.1) _ _ _ s s.heap
      rw [k2 _ g1 g2]
      exact ⟨g3, g4⟩
    · show va_Z _ _ _ (fwV (dC, dI, dA, s.heap.size, kA) (if kA 5001 = 0 then .null else .retAddr 5000)) _ s s.heap
      rcases h5 with ⟨g1, g2⟩ | ⟨g1, g2⟩
      · rw [if_pos (k5.trans g1)]
        exact g2
      · rw [if_neg (fun q => g1 (k5.symm.trans q))]
        show va_Z _ _ _ (.ref (kA 5000)) _ s s.heap
        rw [k4]
        exact g2
    · show va_T .int (kA 6000) (kA 6001) (fun j => .int (Int32.ofNat (kA (7000 + j)))) _ s s.heap
      rw [k6, k7]
      obtain ⟨scr, g1, g2, g3, g4, g5⟩ := hX
      refine ⟨scr, g1, g2, g3, by omega, by rw [g4], fun j hj => ?_, hA b hbl⟩
      show scr.slots[j]? = some (Value.int (Int32.ofNat (kA (7000 + j))))
      rw [g5 j hj, k8, en_x]
  have hE := lv_entry ([Value.ref b]) (n := 4) (Nat.le_of_ble_eq_true rfl)
  rw [lg_entry_eq]
  have hW := law_0 (l := l) (Z := (dC, dI, dA, s.heap.size, kA)) (σ := (fun _ _ => 0, fun _ _ => 0)) (by show kA 6001 ≤ 6; rw [k7]; exact hL) p e s m #[Value.ref b] below meth c s.heap [] _ ⟨hx, hb, hr, hml, hown, fun w hw => (List.mem_cons.mp hw).elim (fun q => by rw [q]; exact hcode) (fun q => hts w (List.mem_filter.mp q).1), hlocks, hK _ _, Nat.le_refl _, hCn, hnm⟩ ⟨fun k q h => by simp [fwW] at h, rfl, fun i n h => by simp at h⟩ va_S.rf ⟨⟨hE.1, hE.2.1, fun q hq => by cases hq⟩, rfl, fun i v hi => ?_⟩
  · obtain ⟨t, st, o, r1, r2, ⟨⟨v, sh, σ', ho, hv, -⟩, -⟩, L', ⟨fr1, fr2, fr3⟩, hL'⟩ := hW T hTh ⟨X.admits, X.cas, X.clock, X.frames, en_room X.room, X.hears, X.method, X.code, X.here, X.tail, X.warmed, X.limits, X.bytes, X.same⟩
    subst hv
    refine ⟨t, st, o, r1, r2, ho, fr1, fr2, fr3.weaken (fun y hy hlt => absurd hlt (Nat.not_lt.mpr (hL' y hy))) (Nat.le_of_ble_eq_true rfl) (Nat.le_of_ble_eq_true rfl)⟩
  · match i, hi with
    | 0, hi =>
      cases hi
      have g := hE.2.2 (0, .ref b) (by simp [lv_args])
      show _ = some (Slot.val (.ref (kA 6000)))
      rw [k6]
      exact g
    | 1, hi => cases hi
    | 2, hi => cases hi
    | 3, hi => cases hi
    | i + 4, hi => simp at hi
