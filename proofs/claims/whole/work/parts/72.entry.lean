/-! the facts of the law's entry (laid by wip/whole/t24.py) -/
theorem lw_all {ws : List Jvm.Cond} (ps : List Nat) (hp : ws = ps.filterMap (fun i => lw_tbl[i]?)) : ∀ w ∈ ws, w ∈ lw_tbl := by
  intro w hw
  rw [hp] at hw
  obtain ⟨i, -, h⟩ := List.mem_filterMap.mp hw
  exact List.mem_of_getElem? h
theorem en_getD {α : Type} {l : List α} {q d : α} (h : q ∈ l) : ∃ r, r < l.length ∧ l.getD r d = q := by
  obtain ⟨r, hr, e⟩ := List.mem_iff_getElem.mp h
  exact ⟨r, hr, by rw [List.getD_eq_getElem?_getD, List.getElem?_eq_getElem hr, e]; rfl⟩
def enF : List Jvm.Cond := flatC narrow_1
def enR : List (String × Nat) := [("MonitorBoard$Shell", 18), ("MonitorBoard$Assembler", 11), ("MonitorBoard$Monitor", 71), ("MonitorBoard$Monitor", 107), ("MonitorBoard$Shell", 209), ("MonitorBoard$Shell", 269), ("MonitorBoard$Shell", 274), ("MonitorBoard$Console", 43), ("MonitorBoard$Shell", 360), ("MonitorBoard$Shell", 379), ("MonitorBoard$Monitor", 118), ("MonitorBoard$Monitor", 121), ("MonitorBoard$Monitor", 126), ("MonitorBoard$Monitor", 128), ("MonitorBoard$Shell", 148), ("MonitorBoard$Shell", 150), ("MonitorBoard$Shell", 152), ("MonitorBoard$Shell", 154), ("MonitorBoard$Shell", 156), ("MonitorBoard$Assembler", 178), ("MonitorBoard$Assembler", 187), ("MonitorBoard$Lister", 72), ("MonitorBoard$Lister", 84), ("MonitorBoard$Lister", 86), ("MonitorBoard", 208), ("MonitorBoard", 213), ("MonitorBoard", 202), ("MonitorBoardModel", 466), ("MonitorBoardModel", 475), ("MonitorBoardModel", 333), ("MonitorBoardModel", 343), ("MonitorBoardModel", 480), ("MonitorBoardModel", 485), ("MonitorBoardModel", 490), ("MonitorBoardModel", 495), ("MonitorBoardModel", 500), ("MonitorBoardModel", 505), ("MonitorBoardModel", 510), ("MonitorBoardModel", 515), ("MonitorBoardModel", 327), ("MonitorBoardModel", 666), ("MonitorBoardModel", 730), ("MonitorBoardModel", 732), ("MonitorBoardModel", 734), ("MonitorBoardModel", 689), ("MonitorBoardModel", 695), ("MonitorBoardModel", 700), ("MonitorBoardModel", 702), ("MonitorBoardModel", 704), ("MonitorBoardModel", 712), ("MonitorBoardModel", 806)]
def enT (i : Nat) : Term := .string (enR.getD i ("", 0)).1 (enR.getD i ("", 0)).2
abbrev enV (t : Term) : Term := .field t "java/lang/String" "value" "[B"
def enE : List Nat := [229, 282, 613, 620, 624, 643, 649, 656, 676, 704, 711, 727, 739, 748, 762, 773, 785, 800, 811, 823, 835, 1174, 1224, 1231, 1237, 1265, 1271, 1296, 1330, 1337, 1361, 1373, 1396, 1404, 1425, 1433, 1441, 1449, 1472, 1493, 1503, 2062, 2067, 2072, 2092, 2099, 2106, 2113, 2119, 2125, 2148]
def enQ : List Nat := [0, 0, 0, 0, 0, 642, 0, 0, 0, 0, 703, 0, 0, 0, 0, 0, 0, 0, 0, 0, 0, 0, 0, 1173, 0, 1193, 1214, 1223, 0, 0, 0, 1262, 0, 0, 1295, 0, 1309, 1317, 1329, 0, 0, 1360, 0, 0, 1395, 0, 0, 1424, 0, 0, 0, 0, 1471, 0, 1492, 0, 0, 2060, 0, 0, 0, 2083, 2091, 0, 0, 0, 0, 0, 0, 2138, 2147, 0]
def enB : List Nat := [112, 25, 214, 199, 7]
def enI : List Nat := [2, 4, 5, 6]
theorem en_ex : ∀ i, i < fwNs → enF[enE.getD i 0]? = some (Jvm.Cond.exactly (enT i) "java/lang/String") := by decide +kernel
theorem en_co : ∀ i, i < fwNs → enF[enE.getD i 0 + 1]? = some (Jvm.Cond.eq (.field (enT i) "java/lang/String" "coder" "B") (.int 0)) := by decide +kernel
theorem en_ar : ∀ i, i < fwNs → enF[enE.getD i 0 + 2]? = some (Jvm.Cond.arrayOf (enV (enT i)) .byte) := by decide +kernel
theorem en_le : ∀ i, i < fwNs → enF[enE.getD i 0 + 3]? = some (Jvm.Cond.eq (.length (enV (enT i))) (.int (Int32.ofNat (fwSl.getD i 0)))) := by decide +kernel
theorem en_el : ∀ i, i < fwNs → ∀ j, j < fwSl.getD i 0 → enF[enE.getD i 0 + 4 + j]? = some (Jvm.Cond.eq (.elem (enV (enT i)) (.int (Int32.ofNat j))) (.int ((fwSb.getD i []).getD j 0))) := by decide +kernel
theorem en_ne : ∀ i, i < fwNs → ∀ j, j < fwNs → i ≠ j → ¬ (fwSl.getD i 0 = fwSl.getD j 0 ∧ ∀ k, k < fwSl.getD i 0 → (fwSb.getD i []).getD k 0 = (fwSb.getD j []).getD k 0) := by decide +kernel
theorem en_q : ∀ r, r < fwSr.length → (fwSr.getD r ("", 0, "", 0)).2.2.2 < fwNs ∧ (((fwSr.getD r ("", 0, "", 0)).1 = (enR.getD (fwSr.getD r ("", 0, "", 0)).2.2.2 ("", 0)).1 ∧ (fwSr.getD r ("", 0, "", 0)).2.1 = (enR.getD (fwSr.getD r ("", 0, "", 0)).2.2.2 ("", 0)).2) ∨ enF[enQ.getD r 0]? = some (Jvm.Cond.eq (enT (fwSr.getD r ("", 0, "", 0)).2.2.2) (.string (fwSr.getD r ("", 0, "", 0)).1 (fwSr.getD r ("", 0, "", 0)).2.1))) := by decide +kernel
theorem en_sr : ∀ w ∈ fwSr.map (fun q => Jvm.Cond.stringRef q.1 q.2.1 q.2.2.1), w ∈ lw_tbl := lw_all [566, 719, 816, 862, 1012, 1087, 1090, 1095, 1268, 1295, 1318, 1335, 1364, 1365, 1367, 1368, 1369, 1370, 1371, 1372, 1373, 1818, 1829, 1876, 1883, 1892, 1901, 1906, 1907, 1908, 1921, 1934, 1935, 1936, 1959, 2325, 2373, 2374, 2379, 2380, 2389, 2394, 2403, 2412, 2417, 2422, 2435, 2464, 2465, 2477, 2491, 2499, 2517, 2518, 2523, 2564, 2732, 2786, 2791, 2796, 2797, 2798, 2799, 2808, 2809, 2814, 2815, 2816, 2825, 2857, 2858, 2867] (by decide +kernel)
theorem en_tb : ∀ r, r < fwTb.length → (fwTb.getD r ("", "", 0, [])).2.2.1 = fwNs + r ∧ (fwTb.getD r ("", "", 0, [])).2.2.2.length < 2 ^ 31 ∧ enF[enB.getD r 0 + 1]? = some (Jvm.Cond.arrayOf (.static (fwTb.getD r ("", "", 0, [])).1 (fwTb.getD r ("", "", 0, [])).2.1 "[I") .int) ∧ enF[enB.getD r 0 + 2]? = some (Jvm.Cond.eq (.length (.static (fwTb.getD r ("", "", 0, [])).1 (fwTb.getD r ("", "", 0, [])).2.1 "[I")) (.int (Int32.ofNat (fwTb.getD r ("", "", 0, [])).2.2.2.length))) ∧ ∀ j, j < (fwTb.getD r ("", "", 0, [])).2.2.2.length → enF[enB.getD r 0 + 3 + j]? = some (Jvm.Cond.eq (.elem (.static (fwTb.getD r ("", "", 0, [])).1 (fwTb.getD r ("", "", 0, [])).2.1 "[I") (.int (Int32.ofNat j))) (.int ((fwTb.getD r ("", "", 0, [])).2.2.2.getD j 0))) := by decide +kernel
theorem en_tl : ∀ w ∈ fwTb.map (fun q => Jvm.Cond.laysStatic q.1 q.2.1 "[I"), w ∈ lw_tbl := lw_all [1805, 1733, 1870, 1833, 1484] (by decide +kernel)
theorem en_ti : ∀ w ∈ fwTb.map (fun q => Jvm.Cond.initialized q.1), w ∈ lw_tbl := lw_all [302, 302, 302, 302, 287] (by decide +kernel)
theorem en_si : ∀ r, r < fwSi.length → enF[enI.getD r 0]? = some (Jvm.Cond.eq (.static (fwSi.getD r ("", "", "", 0)).1 (fwSi.getD r ("", "", "", 0)).2.1 (fwSi.getD r ("", "", "", 0)).2.2.1) (.int (fwSi.getD r ("", "", "", 0)).2.2.2)) := by decide +kernel
theorem en_sl : ∀ w ∈ fwSi.map (fun q => Jvm.Cond.laysStatic q.1 q.2.1 q.2.2.1), w ∈ lw_tbl := lw_all [579, 613, 615, 617] (by decide +kernel)
theorem en_sn : ∀ w ∈ fwSi.map (fun q => Jvm.Cond.initialized q.1), w ∈ lw_tbl := lw_all [290, 293, 293, 293] (by decide +kernel)
theorem en_z : enF[3]? = some (Jvm.Cond.isRef (.static "jdk/internal/util/Preconditions" "SIOOBE_FORMATTER" "Ljava/util/function/BiFunction;")) := by decide +kernel
theorem en_zl : ∀ w ∈ [Jvm.Cond.laysStatic "jdk/internal/util/Preconditions" "SIOOBE_FORMATTER" "Ljava/util/function/BiFunction;", Jvm.Cond.initialized "jdk/internal/util/Preconditions"], w ∈ lw_tbl := lw_all [595, 292] (by decide +kernel)
theorem en_nl : ∀ w ∈ fwNl.map (fun q => Jvm.Cond.methodLinkNest q.1 q.2.1 q.2.2.1 q.2.2.2), w ∈ lw_tbl := lw_all [314, 532, 567, 720, 721, 972, 985, 986, 1719] (by decide +kernel)
theorem en_in : ∀ w ∈ fwCl.map (fun q => Jvm.Cond.instantiable q.1 q.2.2), w ∈ lw_tbl := lw_all [304, 1938, 714, 313, 408, 531, 789, 487, 360, 623, 525] (by decide +kernel)
section ENT
variable {args : Array Value} {s : State} {A : Nat → Prop}
theorem en_S (h : ∀ c ∈ enF, c.before args s = true) (hA : ∀ a : Nat, a < s.heap.size → ¬ A a) : ∃ adK adV : Nat → Nat, vk_S fwNs fwSl fwSb adK adV A s s.heap ∧ ∀ i : Nat, i < fwNs → (enT i).eval args s none [] s = some (.ref (adK i)) := by
  have h0 : ∀ i : Nat, ∃ q : Nat × Nat, i < fwNs → (enT i).eval args s none [] s = some (.ref q.1) ∧ va_O "java/lang/String" q.1 A s s.heap ∧ va_OF "java/lang/String" "coder" "B" (.int 0) q.1 A s s.heap ∧ va_OF "java/lang/String" "value" "[B" (.ref q.2) q.1 A s s.heap ∧ va_T .byte q.2 (fwSl.getD i 0) (fun j => .int ((fwSb.getD i []).getD j 0)) A s s.heap := by
    intro i
    by_cases hi : i < fwNs
    · obtain ⟨a, c, cA, kA, q1, q2, q3, q4, q5, q6, -⟩ := Cond.exactly_spec (args := args) (first := s) (o := none) (s := s) (idx := []) (t := enT i) (cls := "java/lang/String") (h _ (List.mem_of_getElem? (en_ex i hi)))
      obtain ⟨t, ht, hT⟩ := va_Tof (f := fun j => .int ((fwSb.getD i []).getD j 0)) (A := A) (fw_sc i hi).2.1 (h _ (List.mem_of_getElem? (en_ar i hi))) (va_eqt (h _ (List.mem_of_getElem? (en_le i hi)))) (fun j hj => va_eqt (h _ (List.mem_of_getElem? (en_el i hi j hj)))) hA
      exact ⟨(a, t), fun _ => ⟨q1, ⟨cA, q3, q5, by rw [q6]; exact q2, hA a (Array.getElem?_eq_some_iff.mp q3).1⟩, vk_OFof q1 (va_eqt (h _ (List.mem_of_getElem? (en_co i hi)))) hA, vk_OFof q1 ht hA, hT⟩⟩
    · exact ⟨(0, 0), fun h => absurd h hi⟩
  obtain ⟨ad, had⟩ := Classical.axiomOfChoice h0
  refine ⟨fun i => (ad i).1, fun i => (ad i).2, ⟨fun i hi => (had i hi).2, fun i j hi hj e => ?_⟩, fun i hi => (had i hi).1⟩
  by_cases hij : i = j
  · exact hij
  · exfalso
    obtain ⟨-, -, -, hVi, hTi⟩ := had i hi
    obtain ⟨-, -, -, hVj, hTj⟩ := had j hj
    obtain ⟨cf, k, fi, f, cell, f1, f2, f3, f4, f5, -⟩ := hVi
    obtain ⟨cf', k', fi', f', cell', g1, g2, g3, g4, g5, -⟩ := hVj
    have e' : (ad i).1 = (ad j).1 := e
    cases f1.symm.trans g1
    rw [← e'] at g3
    cases f3.symm.trans g3
    have e2 : (ad i).2 = (ad j).2 := by
      have := f5.symm.trans g5
      injection this with this
      injection this
    obtain ⟨c1, a1, a2, a3, a4, a5, a6, -⟩ := hTi
    obtain ⟨c2, b1, b2, b3, b4, b5, b6, -⟩ := hTj
    rw [e2] at a1
    cases a1.symm.trans b1
    have e3 : fwSl.getD i 0 = fwSl.getD j 0 := (nI_eq (fw_sc i hi).2.1 (fw_sc j hj).2.1).mp (a5.symm.trans b5)
    refine en_ne i hi j hj hij ⟨e3, fun k hk => ?_⟩
    have := (a6 k hk).symm.trans (b6 k (by omega))
    injection this with this
    injection this
theorem en_Rf {adK : Nat → Nat} (h : ∀ c ∈ enF, c.before args s = true) (hts : ∀ w ∈ lw_tbl, w.before args s = true) (he : ∀ i : Nat, i < fwNs → (enT i).eval args s none [] s = some (.ref (adK i))) : ∀ q ∈ fwSr, q.2.2.2 < fwNs ∧ vk_R q.1 q.2.1 q.2.2.1 (adK q.2.2.2) s := by
  intro q hq
  obtain ⟨r, hr, e⟩ := en_getD (d := ("", 0, "", 0)) hq
  obtain ⟨h1, h2⟩ := en_q r hr
  rw [e] at h1 h2
  refine ⟨h1, vk_R.of (hts _ (en_sr _ (List.mem_map.mpr ⟨q, hq, rfl⟩))) ?_⟩
  rcases h2 with ⟨h3, h4⟩ | h2
  · have := he _ h1
    unfold enT at this
    rw [← h3, ← h4] at this
    exact this
  · exact va_eqR (h _ (List.mem_of_getElem? h2)) (he _ h1)
theorem en_Tb (h : ∀ c ∈ enF, c.before args s = true) (hts : ∀ w ∈ lw_tbl, w.before args s = true) (hA : ∀ a : Nat, a < s.heap.size → ¬ A a) : ∃ ad : Nat → Nat, ∀ q ∈ fwTb, fwNs ≤ q.2.2.1 ∧ q.2.2.1 < fwNs + fwTb.length ∧ va_Z q.1 q.2.1 "[I" (.ref (ad q.2.2.1)) A s s.heap ∧ va_T .int (ad q.2.2.1) q.2.2.2.length (fun j => .int (q.2.2.2.getD j 0)) A s s.heap := by
  have h0 : ∀ c : Nat, ∃ t : Nat, ∀ r, r < fwTb.length → c = fwNs + r → va_Z (fwTb.getD r ("", "", 0, [])).1 (fwTb.getD r ("", "", 0, [])).2.1 "[I" (.ref t) A s s.heap ∧ va_T .int t (fwTb.getD r ("", "", 0, [])).2.2.2.length (fun j => .int ((fwTb.getD r ("", "", 0, [])).2.2.2.getD j 0)) A s s.heap := by
    intro c
    by_cases hc : fwNs ≤ c ∧ c - fwNs < fwTb.length
    · obtain ⟨-, g1, g2, g3, g4⟩ := en_tb (c - fwNs) hc.2
      obtain ⟨t, ht, hT⟩ := va_Tof (f := fun j => .int ((fwTb.getD (c - fwNs) ("", "", 0, [])).2.2.2.getD j 0)) (A := A) g1 (h _ (List.mem_of_getElem? g2)) (va_eqt (h _ (List.mem_of_getElem? g3))) (fun j hj => va_eqt (h _ (List.mem_of_getElem? (g4 j hj)))) hA
      have hm : fwTb.getD (c - fwNs) ("", "", 0, []) ∈ fwTb := by
        rw [List.getD_eq_getElem?_getD, List.getElem?_eq_getElem hc.2]
        exact List.getElem_mem hc.2
      refine ⟨t, fun r hr e => ?_⟩
      have : c - fwNs = r := by omega
      subst this
      exact ⟨va_Zof (hts _ (en_tl _ (List.mem_map.mpr ⟨_, hm, rfl⟩))) (hts _ (en_ti _ (List.mem_map.mpr ⟨_, hm, rfl⟩))) ht hA, hT⟩
    · exact ⟨0, fun r hr e => absurd ⟨by omega, by omega⟩ hc⟩
  obtain ⟨ad, had⟩ := Classical.axiomOfChoice h0
  refine ⟨ad, fun q hq => ?_⟩
  obtain ⟨r, hr, e⟩ := en_getD (d := ("", "", 0, [])) hq
  have g := (en_tb r hr).1
  rw [e] at g
  have := had (fwNs + r) r hr rfl
  rw [e] at this
  rw [g]
  exact ⟨Nat.le_add_right _ _, Nat.add_lt_add_left hr _, this.1, this.2⟩
theorem en_Si (h : ∀ c ∈ enF, c.before args s = true) (hts : ∀ w ∈ lw_tbl, w.before args s = true) (hA : ∀ a : Nat, a < s.heap.size → ¬ A a) : ∀ q ∈ fwSi, va_Z q.1 q.2.1 q.2.2.1 (.int q.2.2.2) A s s.heap := by
  intro q hq
  obtain ⟨r, hr, e⟩ := en_getD (d := ("", "", "", 0)) hq
  have g := en_si r hr
  rw [e] at g
  exact va_Zof (hts _ (en_sl _ (List.mem_map.mpr ⟨q, hq, rfl⟩))) (hts _ (en_sn _ (List.mem_map.mpr ⟨q, hq, rfl⟩))) (va_eqi (h _ (List.mem_of_getElem? g))) hA
theorem en_K (hts : ∀ w ∈ lw_tbl, w.before args s = true) : ∃ (dC : Nat → ClassId) (dI : Nat → Nat → Nat) (dA : FieldType → ClassId), ∀ (B : Nat) (kA : Nat → Nat), va_K (fwZ.D (dC, dI, dA, B, kA)) fwCl (fwTys (dC, dI, dA, B, kA)) s := by
  have hT : ∀ w ∈ fwT, w.before args s = true := fun w hw => hts w (List.mem_filter.mp hw).1
  have hk : ∀ k : Nat, ∃ q : ClassId × (Nat → Nat), ∀ c, fwCl[k]? = some c → u_Kn s c.1 c.2.1 c.2.2 q.1 q.2 := by
    intro k
    cases hc : fwCl[k]? with
    | none => exact ⟨(0, fun _ => 0), fun c h => by cases h⟩
    | some c =>
      obtain ⟨cC, iS, hK⟩ := u_known (n := c.2.2) hT (fwCl_ok k c hc).1 (hts _ (en_in _ (List.mem_map.mpr ⟨c, List.mem_of_getElem? hc, rfl⟩)))
      exact ⟨(cC, iS), fun c' h => by cases h; exact hK⟩
  have ha : ∀ t : FieldType, ∃ cA : ClassId, t ∈ fwAT → ArrOfT s cA t ∧ va_RA s cA t := by
    intro t
    by_cases ht : t ∈ fwAT
    · simp only [fwAT, List.mem_cons, List.not_mem_nil, or_false] at ht
      rcases ht with rfl | rfl | rfl | rfl
      · obtain ⟨cA, kA, comp, h1, h2, h3⟩ := Cond.arrayClass_spec (hT _ fwAc_byte)
        exact ⟨cA, fun _ => ⟨fun n z => ⟨fun k h => by cases h, kA, h2, comp, h3⟩, h1⟩⟩
      · obtain ⟨cA, kA, comp, h1, h2, h3⟩ := Cond.arrayClass_spec (hT _ fwAc_int)
        exact ⟨cA, fun _ => ⟨fun n z => ⟨fun k h => by cases h, kA, h2, comp, h3⟩, h1⟩⟩
      · obtain ⟨cA, kA, comp, h1, h2, h3⟩ := Cond.arrayClass_spec (hT _ fwAc_boolean)
        exact ⟨cA, fun _ => ⟨fun n z => ⟨fun k h => by cases h, kA, h2, comp, h3⟩, h1⟩⟩
      · obtain ⟨cA, kA, comp, h1, h2, h3⟩ := Cond.arrayClass_spec (hT _ fwAc_long)
        exact ⟨cA, fun _ => ⟨fun n z => ⟨fun k h => by cases h, kA, h2, comp, h3⟩, h1⟩⟩
    · exact ⟨0, fun h => absurd h ht⟩
  obtain ⟨dq, hdq⟩ := Classical.axiomOfChoice hk
  obtain ⟨dA, hdA⟩ := Classical.axiomOfChoice ha
  refine ⟨fun k => (dq k).1, fun k => (dq k).2, dA, fun B kA => ⟨fun c q h => hdq c q h, fun k q h => ?_⟩⟩
  unfold fwTys at h
  rw [List.getElem?_map] at h
  cases ht : fwAT[k]? with
  | none => rw [ht] at h; cases h
  | some t =>
    rw [ht] at h
    cases h
    exact hdA t (List.mem_of_getElem? ht)
end ENT
