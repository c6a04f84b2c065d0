/-! the facts of the law's entry (laid by wip/whole/t24.py) -/
theorem lw_all {ws : List Jvm.Cond} (ps : List Nat) (hp : ws = ps.filterMap (fun i => lw_tbl[i]?)) : ∀ w ∈ ws, w ∈ lw_tbl := by
  intro w hw
  rw [hp] at hw
  obtain ⟨i, -, h⟩ := List.mem_filterMap.mp hw
  exact List.mem_of_getElem? h
theorem en_getD {α : Type} {l : List α} {q d : α} (h : q ∈ l) : ∃ r, r < l.length ∧ l.getD r d = q := by
  obtain ⟨r, hr, e⟩ := List.mem_iff_getElem.mp h
  exact ⟨r, hr, by rw [List.getD_eq_getElem?_getD, List.getElem?_eq_getElem hr, e]; rfl⟩
def enF : List Jvm.Cond := flatC narrow_1
def enR : List (String × Nat) := [("MonitorBoard$Shell", 18), ("MonitorBoard$Assembler", 11), ("MonitorBoard$Monitor", 71), ("MonitorBoard$Monitor", 107), ("MonitorBoard$Shell", 209), ("MonitorBoard$Shell", 269), ("MonitorBoard$Shell", 274), ("MonitorBoard$Console", 43), ("MonitorBoard$Shell", 360), ("MonitorBoard$Shell", 379), ("MonitorBoard$Monitor", 118), ("MonitorBoard$Monitor", 121), ("MonitorBoard$Monitor", 126), ("MonitorBoard$Monitor", 128), ("MonitorBoard$Shell", 148), ("MonitorBoard$Shell", 150), ("MonitorBoard$Shell", 152), ("MonitorBoard$Shell", 154), ("MonitorBoard$Shell", 156), ("MonitorBoard$Assembler", 178), ("MonitorBoard$Assembler", 187), ("MonitorBoard$Lister", 72), ("MonitorBoard$Lister", 84), ("MonitorBoard$Lister", 86), ("MonitorBoard", 208), ("MonitorBoard", 213), ("MonitorBoard", 202), ("MonitorBoardModel", 466), ("MonitorBoardModel", 475), ("MonitorBoardModel", 333), ("MonitorBoardModel", 343), ("MonitorBoardModel", 480), ("MonitorBoardModel", 485), ("MonitorBoardModel", 490), ("MonitorBoardModel", 495), ("MonitorBoardModel", 500), ("MonitorBoardModel", 505), ("MonitorBoardModel", 510), ("MonitorBoardModel", 515), ("MonitorBoardModel", 327), ("MonitorBoardModel", 666), ("MonitorBoardModel", 730), ("MonitorBoardModel", 732), ("MonitorBoardModel", 734), ("MonitorBoardModel", 689), ("MonitorBoardModel", 695), ("MonitorBoardModel", 700), ("MonitorBoardModel", 702), ("MonitorBoardModel", 704), ("MonitorBoardModel", 712), ("MonitorBoardModel", 806)]
def enT (i : Nat) : Term := .string (enR.getD i ("", 0)).1 (enR.getD i ("", 0)).2
abbrev enV (t : Term) : Term := .field t "java/lang/String" "value" "[B"
def enE : List Nat := [229, 282, 613, 620, 624, 643, 649, 656, 676, 704, 711, 727, 739, 748, 762, 773, 785, 800, 811, 823, 835, 1174, 1224, 1231, 1237, 1265, 1271, 1296, 1330, 1337, 1361, 1373, 1396, 1404, 1425, 1433, 1441, 1449, 1472, 1493, 1503, 2062, 2067, 2072, 2092, 2099, 2106, 2113, 2119, 2125, 2148]
def enQ : List Nat := [0, 0, 0, 0, 0, 642, 0, 0, 0, 0, 703, 0, 0, 0, 0, 0, 0, 0, 0, 0, 0, 0, 0, 1173, 0, 1193, 1214, 1223, 0, 0, 0, 1262, 0, 0, 1295, 0, 1309, 1317, 1329, 0, 0, 1360, 0, 0, 1395, 0, 0, 1424, 0, 0, 0, 0, 1471, 0, 1492, 0, 0, 2060, 0, 0, 0, 2083, 2091, 0, 0, 0, 0, 0, 0, 2138, 2147, 0]
def enB : List Nat := [112, 25, 214, 199, 7]
def enI : List Nat := [2, 4, 5, 6]
theorem en_ex : ∀ i, i < fwNs → enF[enE.getD i 0]? = some (Jvm.Cond.exactly (enT i) "java/lang/String") := by decide +kernel
theorem en_co : ∀ i, i < fwNs → enF[enE.getD i 0 + 1]? = some (Jvm.Cond.eq (.field (enT i) "java/lang/String" "coder" "B") (.int 0)) := by decide +kernel
theorem en_ar : ∀ i, i < fwNs → enF[enE.getD i 0 + 2]? = some (Jvm.Cond.arrayOf (enV (enT i)) .byte) := by decide +kernel
theorem en_le : ∀ i, i < fwNs → enF[enE.getD i 0 + 3]? = some (Jvm.Cond.eq (.length (enV (enT i))) (.int (Int32.ofNat (fwSl.getD i 0)))) := by decide +kernel
def enC (i j : Nat) : Jvm.Cond := .eq (.elem (enV (enT i)) (.int (Int32.ofNat j))) (.int ((fwSb.getD i []).getD j 0))
theorem en_p1 : ∀ c ∈ flatC narrow_1_1, c ∈ enF := fun c h => by
  show c ∈ flatC narrow_1
  simp only [narrow_1, flatC, List.mem_append]
  simp only [h, true_or, or_true]
theorem en_p2 : ∀ c ∈ flatC narrow_1_2, c ∈ enF := fun c h => by
  show c ∈ flatC narrow_1
  simp only [narrow_1, flatC, List.mem_append]
  simp only [h, true_or, or_true]
theorem en_p3 : ∀ c ∈ flatC narrow_1_3, c ∈ enF := fun c h => by
  show c ∈ flatC narrow_1
  simp only [narrow_1, flatC, List.mem_append]
  simp only [h, true_or, or_true]
theorem en_p4 : ∀ c ∈ flatC narrow_1_4, c ∈ enF := fun c h => by
  show c ∈ flatC narrow_1
  simp only [narrow_1, flatC, List.mem_append]
  simp only [h, true_or, or_true]
theorem en_p5 : ∀ c ∈ flatC narrow_1_5, c ∈ enF := fun c h => by
  show c ∈ flatC narrow_1
  simp only [narrow_1, flatC, List.mem_append]
  simp only [h, true_or, or_true]
theorem en_p6 : ∀ c ∈ flatC narrow_1_6, c ∈ enF := fun c h => by
  show c ∈ flatC narrow_1
  simp only [narrow_1, flatC, List.mem_append]
  simp only [h, true_or, or_true]
theorem en_ch0 : ∀ j, j < 40 → (flatC narrow_1_1)[233 + j]? = some (enC 0 (0 + j)) := by decide +kernel
theorem en_ch1 : ∀ j, j < 9 → (flatC narrow_1_1)[273 + j]? = some (enC 0 (40 + j)) := by decide +kernel
theorem en_m0 : ∀ j, j < 49 → enC 0 j ∈ enF := by
  intro j hj
  rcases Nat.lt_or_ge j 40 with h0 | h0
  · have g := en_ch0 (j - 0) (by omega)
    rw [show 0 + (j - 0) = j by omega] at g
    exact en_p1 _ (List.mem_of_getElem? g)
  · have g := en_ch1 (j - 40) (by omega)
    rw [show 40 + (j - 40) = j by omega] at g
    exact en_p1 _ (List.mem_of_getElem? g)
theorem en_ch2 : ∀ j, j < 40 → (flatC narrow_1_1)[286 + j]? = some (enC 1 (0 + j)) := by decide +kernel
theorem en_ch3 : ∀ j, j < 40 → (flatC narrow_1_1)[326 + j]? = some (enC 1 (40 + j)) := by decide +kernel
theorem en_ch4 : ∀ j, j < 34 → (flatC narrow_1_1)[366 + j]? = some (enC 1 (80 + j)) := by decide +kernel
theorem en_ch5 : ∀ j, j < 40 → (flatC narrow_1_2)[0 + j]? = some (enC 1 (114 + j)) := by decide +kernel
theorem en_ch6 : ∀ j, j < 40 → (flatC narrow_1_2)[40 + j]? = some (enC 1 (154 + j)) := by decide +kernel
theorem en_ch7 : ∀ j, j < 40 → (flatC narrow_1_2)[80 + j]? = some (enC 1 (194 + j)) := by decide +kernel
theorem en_ch8 : ∀ j, j < 40 → (flatC narrow_1_2)[120 + j]? = some (enC 1 (234 + j)) := by decide +kernel
theorem en_ch9 : ∀ j, j < 40 → (flatC narrow_1_2)[160 + j]? = some (enC 1 (274 + j)) := by decide +kernel
theorem en_ch10 : ∀ j, j < 13 → (flatC narrow_1_2)[200 + j]? = some (enC 1 (314 + j)) := by decide +kernel
theorem en_m1 : ∀ j, j < 327 → enC 1 j ∈ enF := by
  intro j hj
  rcases Nat.lt_or_ge j 40 with h0 | h0
  · have g := en_ch2 (j - 0) (by omega)
    rw [show 0 + (j - 0) = j by omega] at g
    exact en_p1 _ (List.mem_of_getElem? g)
  rcases Nat.lt_or_ge j 80 with h1 | h1
  · have g := en_ch3 (j - 40) (by omega)
    rw [show 40 + (j - 40) = j by omega] at g
    exact en_p1 _ (List.mem_of_getElem? g)
  rcases Nat.lt_or_ge j 114 with h2 | h2
  · have g := en_ch4 (j - 80) (by omega)
    rw [show 80 + (j - 80) = j by omega] at g
    exact en_p1 _ (List.mem_of_getElem? g)
  rcases Nat.lt_or_ge j 154 with h3 | h3
  · have g := en_ch5 (j - 114) (by omega)
    rw [show 114 + (j - 114) = j by omega] at g
    exact en_p2 _ (List.mem_of_getElem? g)
  rcases Nat.lt_or_ge j 194 with h4 | h4
  · have g := en_ch6 (j - 154) (by omega)
    rw [show 154 + (j - 154) = j by omega] at g
    exact en_p2 _ (List.mem_of_getElem? g)
  rcases Nat.lt_or_ge j 234 with h5 | h5
  · have g := en_ch7 (j - 194) (by omega)
    rw [show 194 + (j - 194) = j by omega] at g
    exact en_p2 _ (List.mem_of_getElem? g)
  rcases Nat.lt_or_ge j 274 with h6 | h6
  · have g := en_ch8 (j - 234) (by omega)
    rw [show 234 + (j - 234) = j by omega] at g
    exact en_p2 _ (List.mem_of_getElem? g)
  rcases Nat.lt_or_ge j 314 with h7 | h7
  · have g := en_ch9 (j - 274) (by omega)
    rw [show 274 + (j - 274) = j by omega] at g
    exact en_p2 _ (List.mem_of_getElem? g)
  · have g := en_ch10 (j - 314) (by omega)
    rw [show 314 + (j - 314) = j by omega] at g
    exact en_p2 _ (List.mem_of_getElem? g)
theorem en_ch11 : ∀ j, j < 3 → (flatC narrow_1_2)[217 + j]? = some (enC 2 (0 + j)) := by decide +kernel
theorem en_m2 : ∀ j, j < 3 → enC 2 j ∈ enF := by
  intro j hj
  · have g := en_ch11 (j - 0) (by omega)
    rw [show 0 + (j - 0) = j by omega] at g
    exact en_p2 _ (List.mem_of_getElem? g)
theorem en_m3 : ∀ j, j < 0 → enC 3 j ∈ enF := fun j h => absurd h (Nat.not_lt_zero j)
theorem en_ch12 : ∀ j, j < 10 → (flatC narrow_1_2)[228 + j]? = some (enC 4 (0 + j)) := by decide +kernel
theorem en_m4 : ∀ j, j < 10 → enC 4 j ∈ enF := by
  intro j hj
  · have g := en_ch12 (j - 0) (by omega)
    rw [show 0 + (j - 0) = j by omega] at g
    exact en_p2 _ (List.mem_of_getElem? g)
theorem en_ch13 : ∀ j, j < 2 → (flatC narrow_1_2)[247 + j]? = some (enC 5 (0 + j)) := by decide +kernel
theorem en_m5 : ∀ j, j < 2 → enC 5 j ∈ enF := by
  intro j hj
  · have g := en_ch13 (j - 0) (by omega)
    rw [show 0 + (j - 0) = j by omega] at g
    exact en_p2 _ (List.mem_of_getElem? g)
theorem en_ch14 : ∀ j, j < 3 → (flatC narrow_1_2)[253 + j]? = some (enC 6 (0 + j)) := by decide +kernel
theorem en_m6 : ∀ j, j < 3 → enC 6 j ∈ enF := by
  intro j hj
  · have g := en_ch14 (j - 0) (by omega)
    rw [show 0 + (j - 0) = j by omega] at g
    exact en_p2 _ (List.mem_of_getElem? g)
theorem en_ch15 : ∀ j, j < 16 → (flatC narrow_1_2)[260 + j]? = some (enC 7 (0 + j)) := by decide +kernel
theorem en_m7 : ∀ j, j < 16 → enC 7 j ∈ enF := by
  intro j hj
  · have g := en_ch15 (j - 0) (by omega)
    rw [show 0 + (j - 0) = j by omega] at g
    exact en_p2 _ (List.mem_of_getElem? g)
theorem en_ch16 : ∀ j, j < 3 → (flatC narrow_1_2)[280 + j]? = some (enC 8 (0 + j)) := by decide +kernel
theorem en_m8 : ∀ j, j < 3 → enC 8 j ∈ enF := by
  intro j hj
  · have g := en_ch16 (j - 0) (by omega)
    rw [show 0 + (j - 0) = j by omega] at g
    exact en_p2 _ (List.mem_of_getElem? g)
theorem en_ch17 : ∀ j, j < 3 → (flatC narrow_1_2)[308 + j]? = some (enC 9 (0 + j)) := by decide +kernel
theorem en_m9 : ∀ j, j < 3 → enC 9 j ∈ enF := by
  intro j hj
  · have g := en_ch17 (j - 0) (by omega)
    rw [show 0 + (j - 0) = j by omega] at g
    exact en_p2 _ (List.mem_of_getElem? g)
theorem en_ch18 : ∀ j, j < 12 → (flatC narrow_1_2)[315 + j]? = some (enC 10 (0 + j)) := by decide +kernel
theorem en_m10 : ∀ j, j < 12 → enC 10 j ∈ enF := by
  intro j hj
  · have g := en_ch18 (j - 0) (by omega)
    rw [show 0 + (j - 0) = j by omega] at g
    exact en_p2 _ (List.mem_of_getElem? g)
theorem en_ch19 : ∀ j, j < 8 → (flatC narrow_1_2)[331 + j]? = some (enC 11 (0 + j)) := by decide +kernel
theorem en_m11 : ∀ j, j < 8 → enC 11 j ∈ enF := by
  intro j hj
  · have g := en_ch19 (j - 0) (by omega)
    rw [show 0 + (j - 0) = j by omega] at g
    exact en_p2 _ (List.mem_of_getElem? g)
theorem en_ch20 : ∀ j, j < 5 → (flatC narrow_1_2)[343 + j]? = some (enC 12 (0 + j)) := by decide +kernel
theorem en_m12 : ∀ j, j < 5 → enC 12 j ∈ enF := by
  intro j hj
  · have g := en_ch20 (j - 0) (by omega)
    rw [show 0 + (j - 0) = j by omega] at g
    exact en_p2 _ (List.mem_of_getElem? g)
theorem en_ch21 : ∀ j, j < 10 → (flatC narrow_1_2)[352 + j]? = some (enC 13 (0 + j)) := by decide +kernel
theorem en_m13 : ∀ j, j < 10 → enC 13 j ∈ enF := by
  intro j hj
  · have g := en_ch21 (j - 0) (by omega)
    rw [show 0 + (j - 0) = j by omega] at g
    exact en_p2 _ (List.mem_of_getElem? g)
theorem en_ch22 : ∀ j, j < 7 → (flatC narrow_1_2)[366 + j]? = some (enC 14 (0 + j)) := by decide +kernel
theorem en_m14 : ∀ j, j < 7 → enC 14 j ∈ enF := by
  intro j hj
  · have g := en_ch22 (j - 0) (by omega)
    rw [show 0 + (j - 0) = j by omega] at g
    exact en_p2 _ (List.mem_of_getElem? g)
theorem en_ch23 : ∀ j, j < 8 → (flatC narrow_1_2)[377 + j]? = some (enC 15 (0 + j)) := by decide +kernel
theorem en_m15 : ∀ j, j < 8 → enC 15 j ∈ enF := by
  intro j hj
  · have g := en_ch23 (j - 0) (by omega)
    rw [show 0 + (j - 0) = j by omega] at g
    exact en_p2 _ (List.mem_of_getElem? g)
theorem en_ch24 : ∀ j, j < 11 → (flatC narrow_1_2)[389 + j]? = some (enC 16 (0 + j)) := by decide +kernel
theorem en_m16 : ∀ j, j < 11 → enC 16 j ∈ enF := by
  intro j hj
  · have g := en_ch24 (j - 0) (by omega)
    rw [show 0 + (j - 0) = j by omega] at g
    exact en_p2 _ (List.mem_of_getElem? g)
theorem en_ch25 : ∀ j, j < 7 → (flatC narrow_1_3)[4 + j]? = some (enC 17 (0 + j)) := by decide +kernel
theorem en_m17 : ∀ j, j < 7 → enC 17 j ∈ enF := by
  intro j hj
  · have g := en_ch25 (j - 0) (by omega)
    rw [show 0 + (j - 0) = j by omega] at g
    exact en_p3 _ (List.mem_of_getElem? g)
theorem en_ch26 : ∀ j, j < 8 → (flatC narrow_1_3)[15 + j]? = some (enC 18 (0 + j)) := by decide +kernel
theorem en_m18 : ∀ j, j < 8 → enC 18 j ∈ enF := by
  intro j hj
  · have g := en_ch26 (j - 0) (by omega)
    rw [show 0 + (j - 0) = j by omega] at g
    exact en_p3 _ (List.mem_of_getElem? g)
theorem en_ch27 : ∀ j, j < 8 → (flatC narrow_1_3)[27 + j]? = some (enC 19 (0 + j)) := by decide +kernel
theorem en_m19 : ∀ j, j < 8 → enC 19 j ∈ enF := by
  intro j hj
  · have g := en_ch27 (j - 0) (by omega)
    rw [show 0 + (j - 0) = j by omega] at g
    exact en_p3 _ (List.mem_of_getElem? g)
theorem en_ch28 : ∀ j, j < 3 → (flatC narrow_1_3)[39 + j]? = some (enC 20 (0 + j)) := by decide +kernel
theorem en_m20 : ∀ j, j < 3 → enC 20 j ∈ enF := by
  intro j hj
  · have g := en_ch28 (j - 0) (by omega)
    rw [show 0 + (j - 0) = j by omega] at g
    exact en_p3 _ (List.mem_of_getElem? g)
theorem en_ch29 : ∀ j, j < 3 → (flatC narrow_1_3)[378 + j]? = some (enC 21 (0 + j)) := by decide +kernel
theorem en_m21 : ∀ j, j < 3 → enC 21 j ∈ enF := by
  intro j hj
  · have g := en_ch29 (j - 0) (by omega)
    rw [show 0 + (j - 0) = j by omega] at g
    exact en_p3 _ (List.mem_of_getElem? g)
theorem en_ch30 : ∀ j, j < 3 → (flatC narrow_1_4)[28 + j]? = some (enC 22 (0 + j)) := by decide +kernel
theorem en_m22 : ∀ j, j < 3 → enC 22 j ∈ enF := by
  intro j hj
  · have g := en_ch30 (j - 0) (by omega)
    rw [show 0 + (j - 0) = j by omega] at g
    exact en_p4 _ (List.mem_of_getElem? g)
theorem en_ch31 : ∀ j, j < 2 → (flatC narrow_1_4)[35 + j]? = some (enC 23 (0 + j)) := by decide +kernel
theorem en_m23 : ∀ j, j < 2 → enC 23 j ∈ enF := by
  intro j hj
  · have g := en_ch31 (j - 0) (by omega)
    rw [show 0 + (j - 0) = j by omega] at g
    exact en_p4 _ (List.mem_of_getElem? g)
theorem en_ch32 : ∀ j, j < 1 → (flatC narrow_1_4)[41 + j]? = some (enC 24 (0 + j)) := by decide +kernel
theorem en_m24 : ∀ j, j < 1 → enC 24 j ∈ enF := by
  intro j hj
  · have g := en_ch32 (j - 0) (by omega)
    rw [show 0 + (j - 0) = j by omega] at g
    exact en_p4 _ (List.mem_of_getElem? g)
theorem en_ch33 : ∀ j, j < 2 → (flatC narrow_1_4)[69 + j]? = some (enC 25 (0 + j)) := by decide +kernel
theorem en_m25 : ∀ j, j < 2 → enC 25 j ∈ enF := by
  intro j hj
  · have g := en_ch33 (j - 0) (by omega)
    rw [show 0 + (j - 0) = j by omega] at g
    exact en_p4 _ (List.mem_of_getElem? g)
theorem en_ch34 : ∀ j, j < 13 → (flatC narrow_1_4)[75 + j]? = some (enC 26 (0 + j)) := by decide +kernel
theorem en_m26 : ∀ j, j < 13 → enC 26 j ∈ enF := by
  intro j hj
  · have g := en_ch34 (j - 0) (by omega)
    rw [show 0 + (j - 0) = j by omega] at g
    exact en_p4 _ (List.mem_of_getElem? g)
theorem en_ch35 : ∀ j, j < 3 → (flatC narrow_1_4)[100 + j]? = some (enC 27 (0 + j)) := by decide +kernel
theorem en_m27 : ∀ j, j < 3 → enC 27 j ∈ enF := by
  intro j hj
  · have g := en_ch35 (j - 0) (by omega)
    rw [show 0 + (j - 0) = j by omega] at g
    exact en_p4 _ (List.mem_of_getElem? g)
theorem en_ch36 : ∀ j, j < 3 → (flatC narrow_1_4)[134 + j]? = some (enC 28 (0 + j)) := by decide +kernel
theorem en_m28 : ∀ j, j < 3 → enC 28 j ∈ enF := by
  intro j hj
  · have g := en_ch36 (j - 0) (by omega)
    rw [show 0 + (j - 0) = j by omega] at g
    exact en_p4 _ (List.mem_of_getElem? g)
theorem en_ch37 : ∀ j, j < 3 → (flatC narrow_1_4)[141 + j]? = some (enC 29 (0 + j)) := by decide +kernel
theorem en_m29 : ∀ j, j < 3 → enC 29 j ∈ enF := by
  intro j hj
  · have g := en_ch37 (j - 0) (by omega)
    rw [show 0 + (j - 0) = j by omega] at g
    exact en_p4 _ (List.mem_of_getElem? g)
theorem en_ch38 : ∀ j, j < 8 → (flatC narrow_1_4)[165 + j]? = some (enC 30 (0 + j)) := by decide +kernel
theorem en_m30 : ∀ j, j < 8 → enC 30 j ∈ enF := by
  intro j hj
  · have g := en_ch38 (j - 0) (by omega)
    rw [show 0 + (j - 0) = j by omega] at g
    exact en_p4 _ (List.mem_of_getElem? g)
theorem en_ch39 : ∀ j, j < 3 → (flatC narrow_1_4)[177 + j]? = some (enC 31 (0 + j)) := by decide +kernel
theorem en_m31 : ∀ j, j < 3 → enC 31 j ∈ enF := by
  intro j hj
  · have g := en_ch39 (j - 0) (by omega)
    rw [show 0 + (j - 0) = j by omega] at g
    exact en_p4 _ (List.mem_of_getElem? g)
theorem en_ch40 : ∀ j, j < 4 → (flatC narrow_1_4)[200 + j]? = some (enC 32 (0 + j)) := by decide +kernel
theorem en_m32 : ∀ j, j < 4 → enC 32 j ∈ enF := by
  intro j hj
  · have g := en_ch40 (j - 0) (by omega)
    rw [show 0 + (j - 0) = j by omega] at g
    exact en_p4 _ (List.mem_of_getElem? g)
theorem en_ch41 : ∀ j, j < 4 → (flatC narrow_1_4)[208 + j]? = some (enC 33 (0 + j)) := by decide +kernel
theorem en_m33 : ∀ j, j < 4 → enC 33 j ∈ enF := by
  intro j hj
  · have g := en_ch41 (j - 0) (by omega)
    rw [show 0 + (j - 0) = j by omega] at g
    exact en_p4 _ (List.mem_of_getElem? g)
theorem en_ch42 : ∀ j, j < 4 → (flatC narrow_1_4)[229 + j]? = some (enC 34 (0 + j)) := by decide +kernel
theorem en_m34 : ∀ j, j < 4 → enC 34 j ∈ enF := by
  intro j hj
  · have g := en_ch42 (j - 0) (by omega)
    rw [show 0 + (j - 0) = j by omega] at g
    exact en_p4 _ (List.mem_of_getElem? g)
theorem en_ch43 : ∀ j, j < 4 → (flatC narrow_1_4)[237 + j]? = some (enC 35 (0 + j)) := by decide +kernel
theorem en_m35 : ∀ j, j < 4 → enC 35 j ∈ enF := by
  intro j hj
  · have g := en_ch43 (j - 0) (by omega)
    rw [show 0 + (j - 0) = j by omega] at g
    exact en_p4 _ (List.mem_of_getElem? g)
theorem en_ch44 : ∀ j, j < 4 → (flatC narrow_1_4)[245 + j]? = some (enC 36 (0 + j)) := by decide +kernel
theorem en_m36 : ∀ j, j < 4 → enC 36 j ∈ enF := by
  intro j hj
  · have g := en_ch44 (j - 0) (by omega)
    rw [show 0 + (j - 0) = j by omega] at g
    exact en_p4 _ (List.mem_of_getElem? g)
theorem en_ch45 : ∀ j, j < 7 → (flatC narrow_1_4)[253 + j]? = some (enC 37 (0 + j)) := by decide +kernel
theorem en_m37 : ∀ j, j < 7 → enC 37 j ∈ enF := by
  intro j hj
  · have g := en_ch45 (j - 0) (by omega)
    rw [show 0 + (j - 0) = j by omega] at g
    exact en_p4 _ (List.mem_of_getElem? g)
theorem en_ch46 : ∀ j, j < 4 → (flatC narrow_1_4)[276 + j]? = some (enC 38 (0 + j)) := by decide +kernel
theorem en_m38 : ∀ j, j < 4 → enC 38 j ∈ enF := by
  intro j hj
  · have g := en_ch46 (j - 0) (by omega)
    rw [show 0 + (j - 0) = j by omega] at g
    exact en_p4 _ (List.mem_of_getElem? g)
theorem en_ch47 : ∀ j, j < 6 → (flatC narrow_1_4)[297 + j]? = some (enC 39 (0 + j)) := by decide +kernel
theorem en_m39 : ∀ j, j < 6 → enC 39 j ∈ enF := by
  intro j hj
  · have g := en_ch47 (j - 0) (by omega)
    rw [show 0 + (j - 0) = j by omega] at g
    exact en_p4 _ (List.mem_of_getElem? g)
theorem en_ch48 : ∀ j, j < 40 → (flatC narrow_1_4)[307 + j]? = some (enC 40 (0 + j)) := by decide +kernel
theorem en_ch49 : ∀ j, j < 40 → (flatC narrow_1_4)[347 + j]? = some (enC 40 (40 + j)) := by decide +kernel
theorem en_ch50 : ∀ j, j < 13 → (flatC narrow_1_4)[387 + j]? = some (enC 40 (80 + j)) := by decide +kernel
theorem en_ch51 : ∀ j, j < 40 → (flatC narrow_1_5)[0 + j]? = some (enC 40 (93 + j)) := by decide +kernel
theorem en_ch52 : ∀ j, j < 40 → (flatC narrow_1_5)[40 + j]? = some (enC 40 (133 + j)) := by decide +kernel
theorem en_ch53 : ∀ j, j < 40 → (flatC narrow_1_5)[80 + j]? = some (enC 40 (173 + j)) := by decide +kernel
theorem en_ch54 : ∀ j, j < 40 → (flatC narrow_1_5)[120 + j]? = some (enC 40 (213 + j)) := by decide +kernel
theorem en_ch55 : ∀ j, j < 40 → (flatC narrow_1_5)[160 + j]? = some (enC 40 (253 + j)) := by decide +kernel
theorem en_ch56 : ∀ j, j < 40 → (flatC narrow_1_5)[200 + j]? = some (enC 40 (293 + j)) := by decide +kernel
theorem en_ch57 : ∀ j, j < 40 → (flatC narrow_1_5)[240 + j]? = some (enC 40 (333 + j)) := by decide +kernel
theorem en_ch58 : ∀ j, j < 40 → (flatC narrow_1_5)[280 + j]? = some (enC 40 (373 + j)) := by decide +kernel
theorem en_ch59 : ∀ j, j < 40 → (flatC narrow_1_5)[320 + j]? = some (enC 40 (413 + j)) := by decide +kernel
theorem en_ch60 : ∀ j, j < 40 → (flatC narrow_1_5)[360 + j]? = some (enC 40 (453 + j)) := by decide +kernel
theorem en_ch61 : ∀ j, j < 40 → (flatC narrow_1_6)[0 + j]? = some (enC 40 (493 + j)) := by decide +kernel
theorem en_ch62 : ∀ j, j < 8 → (flatC narrow_1_6)[40 + j]? = some (enC 40 (533 + j)) := by decide +kernel
theorem en_m40 : ∀ j, j < 541 → enC 40 j ∈ enF := by
  intro j hj
  rcases Nat.lt_or_ge j 40 with h0 | h0
  · have g := en_ch48 (j - 0) (by omega)
    rw [show 0 + (j - 0) = j by omega] at g
    exact en_p4 _ (List.mem_of_getElem? g)
  rcases Nat.lt_or_ge j 80 with h1 | h1
  · have g := en_ch49 (j - 40) (by omega)
    rw [show 40 + (j - 40) = j by omega] at g
    exact en_p4 _ (List.mem_of_getElem? g)
  rcases Nat.lt_or_ge j 93 with h2 | h2
  · have g := en_ch50 (j - 80) (by omega)
    rw [show 80 + (j - 80) = j by omega] at g
    exact en_p4 _ (List.mem_of_getElem? g)
  rcases Nat.lt_or_ge j 133 with h3 | h3
  · have g := en_ch51 (j - 93) (by omega)
    rw [show 93 + (j - 93) = j by omega] at g
    exact en_p5 _ (List.mem_of_getElem? g)
  rcases Nat.lt_or_ge j 173 with h4 | h4
  · have g := en_ch52 (j - 133) (by omega)
    rw [show 133 + (j - 133) = j by omega] at g
    exact en_p5 _ (List.mem_of_getElem? g)
  rcases Nat.lt_or_ge j 213 with h5 | h5
  · have g := en_ch53 (j - 173) (by omega)
    rw [show 173 + (j - 173) = j by omega] at g
    exact en_p5 _ (List.mem_of_getElem? g)
  rcases Nat.lt_or_ge j 253 with h6 | h6
  · have g := en_ch54 (j - 213) (by omega)
    rw [show 213 + (j - 213) = j by omega] at g
    exact en_p5 _ (List.mem_of_getElem? g)
  rcases Nat.lt_or_ge j 293 with h7 | h7
  · have g := en_ch55 (j - 253) (by omega)
    rw [show 253 + (j - 253) = j by omega] at g
    exact en_p5 _ (List.mem_of_getElem? g)
  rcases Nat.lt_or_ge j 333 with h8 | h8
  · have g := en_ch56 (j - 293) (by omega)
    rw [show 293 + (j - 293) = j by omega] at g
    exact en_p5 _ (List.mem_of_getElem? g)
  rcases Nat.lt_or_ge j 373 with h9 | h9
  · have g := en_ch57 (j - 333) (by omega)
    rw [show 333 + (j - 333) = j by omega] at g
    exact en_p5 _ (List.mem_of_getElem? g)
  rcases Nat.lt_or_ge j 413 with h10 | h10
  · have g := en_ch58 (j - 373) (by omega)
    rw [show 373 + (j - 373) = j by omega] at g
    exact en_p5 _ (List.mem_of_getElem? g)
  rcases Nat.lt_or_ge j 453 with h11 | h11
  · have g := en_ch59 (j - 413) (by omega)
    rw [show 413 + (j - 413) = j by omega] at g
    exact en_p5 _ (List.mem_of_getElem? g)
  rcases Nat.lt_or_ge j 493 with h12 | h12
  · have g := en_ch60 (j - 453) (by omega)
    rw [show 453 + (j - 453) = j by omega] at g
    exact en_p5 _ (List.mem_of_getElem? g)
  rcases Nat.lt_or_ge j 533 with h13 | h13
  · have g := en_ch61 (j - 493) (by omega)
    rw [show 493 + (j - 493) = j by omega] at g
    exact en_p6 _ (List.mem_of_getElem? g)
  · have g := en_ch62 (j - 533) (by omega)
    rw [show 533 + (j - 533) = j by omega] at g
    exact en_p6 _ (List.mem_of_getElem? g)
theorem en_ch63 : ∀ j, j < 1 → (flatC narrow_1_6)[66 + j]? = some (enC 41 (0 + j)) := by decide +kernel
theorem en_m41 : ∀ j, j < 1 → enC 41 j ∈ enF := by
  intro j hj
  · have g := en_ch63 (j - 0) (by omega)
    rw [show 0 + (j - 0) = j by omega] at g
    exact en_p6 _ (List.mem_of_getElem? g)
theorem en_ch64 : ∀ j, j < 1 → (flatC narrow_1_6)[71 + j]? = some (enC 42 (0 + j)) := by decide +kernel
theorem en_m42 : ∀ j, j < 1 → enC 42 j ∈ enF := by
  intro j hj
  · have g := en_ch64 (j - 0) (by omega)
    rw [show 0 + (j - 0) = j by omega] at g
    exact en_p6 _ (List.mem_of_getElem? g)
theorem en_ch65 : ∀ j, j < 1 → (flatC narrow_1_6)[76 + j]? = some (enC 43 (0 + j)) := by decide +kernel
theorem en_m43 : ∀ j, j < 1 → enC 43 j ∈ enF := by
  intro j hj
  · have g := en_ch65 (j - 0) (by omega)
    rw [show 0 + (j - 0) = j by omega] at g
    exact en_p6 _ (List.mem_of_getElem? g)
theorem en_ch66 : ∀ j, j < 3 → (flatC narrow_1_6)[96 + j]? = some (enC 44 (0 + j)) := by decide +kernel
theorem en_m44 : ∀ j, j < 3 → enC 44 j ∈ enF := by
  intro j hj
  · have g := en_ch66 (j - 0) (by omega)
    rw [show 0 + (j - 0) = j by omega] at g
    exact en_p6 _ (List.mem_of_getElem? g)
theorem en_ch67 : ∀ j, j < 3 → (flatC narrow_1_6)[103 + j]? = some (enC 45 (0 + j)) := by decide +kernel
theorem en_m45 : ∀ j, j < 3 → enC 45 j ∈ enF := by
  intro j hj
  · have g := en_ch67 (j - 0) (by omega)
    rw [show 0 + (j - 0) = j by omega] at g
    exact en_p6 _ (List.mem_of_getElem? g)
theorem en_ch68 : ∀ j, j < 3 → (flatC narrow_1_6)[110 + j]? = some (enC 46 (0 + j)) := by decide +kernel
theorem en_m46 : ∀ j, j < 3 → enC 46 j ∈ enF := by
  intro j hj
  · have g := en_ch68 (j - 0) (by omega)
    rw [show 0 + (j - 0) = j by omega] at g
    exact en_p6 _ (List.mem_of_getElem? g)
theorem en_ch69 : ∀ j, j < 2 → (flatC narrow_1_6)[117 + j]? = some (enC 47 (0 + j)) := by decide +kernel
theorem en_m47 : ∀ j, j < 2 → enC 47 j ∈ enF := by
  intro j hj
  · have g := en_ch69 (j - 0) (by omega)
    rw [show 0 + (j - 0) = j by omega] at g
    exact en_p6 _ (List.mem_of_getElem? g)
theorem en_ch70 : ∀ j, j < 2 → (flatC narrow_1_6)[123 + j]? = some (enC 48 (0 + j)) := by decide +kernel
theorem en_m48 : ∀ j, j < 2 → enC 48 j ∈ enF := by
  intro j hj
  · have g := en_ch70 (j - 0) (by omega)
    rw [show 0 + (j - 0) = j by omega] at g
    exact en_p6 _ (List.mem_of_getElem? g)
theorem en_ch71 : ∀ j, j < 2 → (flatC narrow_1_6)[129 + j]? = some (enC 49 (0 + j)) := by decide +kernel
theorem en_m49 : ∀ j, j < 2 → enC 49 j ∈ enF := by
  intro j hj
  · have g := en_ch71 (j - 0) (by omega)
    rw [show 0 + (j - 0) = j by omega] at g
    exact en_p6 _ (List.mem_of_getElem? g)
theorem en_ch72 : ∀ j, j < 11 → (flatC narrow_1_6)[152 + j]? = some (enC 50 (0 + j)) := by decide +kernel
theorem en_m50 : ∀ j, j < 11 → enC 50 j ∈ enF := by
  intro j hj
  · have g := en_ch72 (j - 0) (by omega)
    rw [show 0 + (j - 0) = j by omega] at g
    exact en_p6 _ (List.mem_of_getElem? g)
theorem en_el : ∀ i, i < fwNs → ∀ j, j < fwSl.getD i 0 → enC i j ∈ enF := fun i hi => match i, hi with
  | 0, _ => en_m0
  | 1, _ => en_m1
  | 2, _ => en_m2
  | 3, _ => en_m3
  | 4, _ => en_m4
  | 5, _ => en_m5
  | 6, _ => en_m6
  | 7, _ => en_m7
  | 8, _ => en_m8
  | 9, _ => en_m9
  | 10, _ => en_m10
  | 11, _ => en_m11
  | 12, _ => en_m12
  | 13, _ => en_m13
  | 14, _ => en_m14
  | 15, _ => en_m15
  | 16, _ => en_m16
  | 17, _ => en_m17
  | 18, _ => en_m18
  | 19, _ => en_m19
  | 20, _ => en_m20
  | 21, _ => en_m21
  | 22, _ => en_m22
  | 23, _ => en_m23
  | 24, _ => en_m24
  | 25, _ => en_m25
  | 26, _ => en_m26
  | 27, _ => en_m27
  | 28, _ => en_m28
  | 29, _ => en_m29
  | 30, _ => en_m30
  | 31, _ => en_m31
  | 32, _ => en_m32
  | 33, _ => en_m33
  | 34, _ => en_m34
  | 35, _ => en_m35
  | 36, _ => en_m36
  | 37, _ => en_m37
  | 38, _ => en_m38
  | 39, _ => en_m39
  | 40, _ => en_m40
  | 41, _ => en_m41
  | 42, _ => en_m42
  | 43, _ => en_m43
  | 44, _ => en_m44
  | 45, _ => en_m45
  | 46, _ => en_m46
  | 47, _ => en_m47
  | 48, _ => en_m48
  | 49, _ => en_m49
  | 50, _ => en_m50
  | n + 51, h => absurd h (by unfold fwNs; omega)
theorem en_ne : ∀ i, i < fwNs → ∀ j, j < fwNs → i ≠ j → ¬ (fwSl.getD i 0 = fwSl.getD j 0 ∧ ∀ k, k < fwSl.getD i 0 → (fwSb.getD i []).getD k 0 = (fwSb.getD j []).getD k 0) := by decide +kernel
theorem en_q : ∀ r, r < fwSr.length → (fwSr.getD r ("", 0, "", 0)).2.2.2 < fwNs ∧ (((fwSr.getD r ("", 0, "", 0)).1 = (enR.getD (fwSr.getD r ("", 0, "", 0)).2.2.2 ("", 0)).1 ∧ (fwSr.getD r ("", 0, "", 0)).2.1 = (enR.getD (fwSr.getD r ("", 0, "", 0)).2.2.2 ("", 0)).2) ∨ enF[enQ.getD r 0]? = some (Jvm.Cond.eq (enT (fwSr.getD r ("", 0, "", 0)).2.2.2) (.string (fwSr.getD r ("", 0, "", 0)).1 (fwSr.getD r ("", 0, "", 0)).2.1))) := by decide +kernel
theorem en_sr : ∀ w ∈ fwSr.map (fun q => Jvm.Cond.stringRef q.1 q.2.1 q.2.2.1), w ∈ lw_tbl := lw_all [566, 719, 816, 862, 1012, 1087, 1090, 1095, 1268, 1295, 1318, 1335, 1364, 1365, 1367, 1368, 1369, 1370, 1371, 1372, 1373, 1818, 1829, 1876, 1883, 1892, 1901, 1906, 1907, 1908, 1921, 1934, 1935, 1936, 1959, 2325, 2373, 2374, 2379, 2380, 2389, 2394, 2403, 2412, 2417, 2422, 2435, 2464, 2465, 2477, 2491, 2499, 2517, 2518, 2523, 2564, 2732, 2786, 2791, 2796, 2797, 2798, 2799, 2808, 2809, 2814, 2815, 2816, 2825, 2857, 2858, 2867] (by decide +kernel)
theorem en_tb : ∀ r, r < fwTb.length → (fwTb.getD r ("", "", 0, [])).2.2.1 = fwNs + r ∧ (fwTb.getD r ("", "", 0, [])).2.2.2.length < 2 ^ 31 ∧ enF[enB.getD r 0 + 1]? = some (Jvm.Cond.arrayOf (.static (fwTb.getD r ("", "", 0, [])).1 (fwTb.getD r ("", "", 0, [])).2.1 "[I") .int) ∧ enF[enB.getD r 0 + 2]? = some (Jvm.Cond.eq (.length (.static (fwTb.getD r ("", "", 0, [])).1 (fwTb.getD r ("", "", 0, [])).2.1 "[I")) (.int (Int32.ofNat (fwTb.getD r ("", "", 0, [])).2.2.2.length))) ∧ ∀ j, j < (fwTb.getD r ("", "", 0, [])).2.2.2.length → enF[enB.getD r 0 + 3 + j]? = some (Jvm.Cond.eq (.elem (.static (fwTb.getD r ("", "", 0, [])).1 (fwTb.getD r ("", "", 0, [])).2.1 "[I") (.int (Int32.ofNat j))) (.int ((fwTb.getD r ("", "", 0, [])).2.2.2.getD j 0))) := by decide +kernel
theorem en_tl : ∀ w ∈ fwTb.map (fun q => Jvm.Cond.laysStatic q.1 q.2.1 "[I"), w ∈ lw_tbl := lw_all [1805, 1733, 1870, 1833, 1484] (by decide +kernel)
theorem en_ti : ∀ w ∈ fwTb.map (fun q => Jvm.Cond.initialized q.1), w ∈ lw_tbl := lw_all [302, 302, 302, 302, 287] (by decide +kernel)
theorem en_si : ∀ r, r < fwSi.length → enF[enI.getD r 0]? = some (Jvm.Cond.eq (.static (fwSi.getD r ("", "", "", 0)).1 (fwSi.getD r ("", "", "", 0)).2.1 (fwSi.getD r ("", "", "", 0)).2.2.1) (.int (fwSi.getD r ("", "", "", 0)).2.2.2)) := by decide +kernel
theorem en_sl : ∀ w ∈ fwSi.map (fun q => Jvm.Cond.laysStatic q.1 q.2.1 q.2.2.1), w ∈ lw_tbl := lw_all [579, 613, 615, 617] (by decide +kernel)
theorem en_sn : ∀ w ∈ fwSi.map (fun q => Jvm.Cond.initialized q.1), w ∈ lw_tbl := lw_all [290, 293, 293, 293] (by decide +kernel)
theorem en_z : enF[3]? = some (Jvm.Cond.isRef (.static "jdk/internal/util/Preconditions" "SIOOBE_FORMATTER" "Ljava/util/function/BiFunction;")) := by decide +kernel
theorem en_zl : ∀ w ∈ [Jvm.Cond.laysStatic "jdk/internal/util/Preconditions" "SIOOBE_FORMATTER" "Ljava/util/function/BiFunction;", Jvm.Cond.initialized "jdk/internal/util/Preconditions"], w ∈ lw_tbl := lw_all [595, 292] (by decide +kernel)
theorem en_nl : ∀ w ∈ fwNl.map (fun q => Jvm.Cond.methodLinkNest q.1 q.2.1 q.2.2.1 q.2.2.2), w ∈ lw_tbl := lw_all [314, 532, 567, 720, 721, 972, 985, 986, 1719] (by decide +kernel)
theorem en_in : ∀ w ∈ fwCl.map (fun q => Jvm.Cond.instantiable q.1 q.2.2), w ∈ lw_tbl := lw_all [304, 1938, 714, 313, 408, 531, 789, 487, 360, 623, 525] (by decide +kernel)
section ENT
variable {args : Array Value} {s : State} {A : Nat → Prop}
theorem en_S (h : ∀ c ∈ enF, c.before args s = true) (hA : ∀ a : Nat, a < s.heap.size → ¬ A a) : ∃ adK adV : Nat → Nat, vk_S fwNs fwSl fwSb adK adV A s s.heap ∧ ∀ i : Nat, i < fwNs → (enT i).eval args s none [] s = some (.ref (adK i)) := by
  have h0 : ∀ i : Nat, ∃ q : Nat × Nat, i < fwNs → (enT i).eval args s none [] s = some (.ref q.1) ∧ va_O "java/lang/String" q.1 A s s.heap ∧ va_OF "java/lang/String" "coder" "B" (.int 0) q.1 A s s.heap ∧ va_OF "java/lang/String" "value" "[B" (.ref q.2) q.1 A s s.heap ∧ va_T .byte q.2 (fwSl.getD i 0) (fun j => .int ((fwSb.getD i []).getD j 0)) A s s.heap := by
    intro i
    by_cases hi : i < fwNs
    · obtain ⟨a, c, cA, kA, q1, q2, q3, q4, q5, q6, -⟩ := Cond.exactly_spec (args := args) (first := s) (o := none) (s := s) (idx := []) (t := enT i) (cls := "java/lang/String") (h _ (List.mem_of_getElem? (en_ex i hi)))
      obtain ⟨t, ht, hT⟩ := va_Tof (f := fun j => .int ((fwSb.getD i []).getD j 0)) (A := A) (fw_sc i hi).2.1 (h _ (List.mem_of_getElem? (en_ar i hi))) (va_eqt (h _ (List.mem_of_getElem? (en_le i hi)))) (fun j hj => va_eqt (h _ (en_el i hi j hj))) hA
      exact ⟨(a, t), fun _ => ⟨q1, ⟨cA, q3, q5, by rw [q6]; exact q2, hA a (Array.getElem?_eq_some_iff.mp q3).1⟩, vk_OFof q1 (va_eqt (h _ (List.mem_of_getElem? (en_co i hi)))) hA, vk_OFof q1 ht hA, hT⟩⟩
    · exact ⟨(0, 0), fun h => absurd h hi⟩
  obtain ⟨ad, had⟩ := Classical.axiomOfChoice h0
  refine ⟨fun i => (ad i).1, fun i => (ad i).2, ⟨fun i hi => (had i hi).2, fun i j hi hj e => ?_⟩, fun i hi => (had i hi).1⟩
  by_cases hij : i = j
  · exact hij
  · exfalso
    obtain ⟨-, -, -, hVi, hTi⟩ := had i hi
    obtain ⟨-, -, -, hVj, hTj⟩ := had j hj
    obtain ⟨cf, k, fi, f, cell, f1, f2, f3, f4, f5, -⟩ := hVi
    obtain ⟨cf', k', fi', f', cell', g1, g2, g3, g4, g5, -⟩ := hVj
    have e' : (ad i).1 = (ad j).1 := e
    cases f1.symm.trans g1
    rw [← e'] at g3
    cases f3.symm.trans g3
    have e2 : (ad i).2 = (ad j).2 := by
      have := f5.symm.trans g5
      injection this with this
      injection this
    obtain ⟨c1, a1, a2, a3, a4, a5, a6, -⟩ := hTi
    obtain ⟨c2, b1, b2, b3, b4, b5, b6, -⟩ := hTj
    rw [e2] at a1
    cases a1.symm.trans b1
    have e3 : fwSl.getD i 0 = fwSl.getD j 0 := (nI_eq (fw_sc i hi).2.1 (fw_sc j hj).2.1).mp (a5.symm.trans b5)
    refine en_ne i hi j hj hij ⟨e3, fun k hk => ?_⟩
    have := (a6 k hk).symm.trans (b6 k (by omega))
    injection this with this
    injection this
theorem en_Rf {adK : Nat → Nat} (h : ∀ c ∈ enF, c.before args s = true) (hts : ∀ w ∈ lw_tbl, w.before args s = true) (he : ∀ i : Nat, i < fwNs → (enT i).eval args s none [] s = some (.ref (adK i))) : ∀ q ∈ fwSr, q.2.2.2 < fwNs ∧ vk_R q.1 q.2.1 q.2.2.1 (adK q.2.2.2) s := by
  intro q hq
  obtain ⟨r, hr, e⟩ := en_getD (d := ("", 0, "", 0)) hq
  obtain ⟨h1, h2⟩ := en_q r hr
  rw [e] at h1 h2
  refine ⟨h1, vk_R.of (hts _ (en_sr _ (List.mem_map.mpr ⟨q, hq, rfl⟩))) ?_⟩
  rcases h2 with ⟨h3, h4⟩ | h2
  · have := he _ h1
    unfold enT at this
    rw [← h3, ← h4] at this
    exact this
  · exact va_eqR (h _ (List.mem_of_getElem? h2)) (he _ h1)
theorem en_Tb (h : ∀ c ∈ enF, c.before args s = true) (hts : ∀ w ∈ lw_tbl, w.before args s = true) (hA : ∀ a : Nat, a < s.heap.size → ¬ A a) : ∃ ad : Nat → Nat, ∀ q ∈ fwTb, fwNs ≤ q.2.2.1 ∧ q.2.2.1 < fwNs + fwTb.length ∧ va_Z q.1 q.2.1 "[I" (.ref (ad q.2.2.1)) A s s.heap ∧ va_T .int (ad q.2.2.1) q.2.2.2.length (fun j => .int (q.2.2.2.getD j 0)) A s s.heap := by
  have h0 : ∀ c : Nat, ∃ t : Nat, ∀ r, r < fwTb.length → c = fwNs + r → va_Z (fwTb.getD r ("", "", 0, [])).1 (fwTb.getD r ("", "", 0, [])).2.1 "[I" (.ref t) A s s.heap ∧ va_T .int t (fwTb.getD r ("", "", 0, [])).2.2.2.length (fun j => .int ((fwTb.getD r ("", "", 0, [])).2.2.2.getD j 0)) A s s.heap := by
    intro c
    by_cases hc : fwNs ≤ c ∧ c - fwNs < fwTb.length
    · obtain ⟨-, g1, g2, g3, g4⟩ := en_tb (c - fwNs) hc.2
      obtain ⟨t, ht, hT⟩ := va_Tof (f := fun j => .int ((fwTb.getD (c - fwNs) ("", "", 0, [])).2.2.2.getD j 0)) (A := A) g1 (h _ (List.mem_of_getElem? g2)) (va_eqt (h _ (List.mem_of_getElem? g3))) (fun j hj => va_eqt (h _ (List.mem_of_getElem? (g4 j hj)))) hA
      have hm : fwTb.getD (c - fwNs) ("", "", 0, []) ∈ fwTb := by
        rw [List.getD_eq_getElem?_getD, List.getElem?_eq_getElem hc.2]
        exact List.getElem_mem hc.2
      refine ⟨t, fun r hr e => ?_⟩
      have : c - fwNs = r := by omega
      subst this
      exact ⟨va_Zof (hts _ (en_tl _ (List.mem_map.mpr ⟨_, hm, rfl⟩))) (hts _ (en_ti _ (List.mem_map.mpr ⟨_, hm, rfl⟩))) ht hA, hT⟩
    · exact ⟨0, fun r hr e => absurd ⟨by omega, by omega⟩ hc⟩
  obtain ⟨ad, had⟩ := Classical.axiomOfChoice h0
  refine ⟨ad, fun q hq => ?_⟩
  obtain ⟨r, hr, e⟩ := en_getD (d := ("", "", 0, [])) hq
  have g := (en_tb r hr).1
  rw [e] at g
  have := had (fwNs + r) r hr rfl
  rw [e] at this
  rw [g]
  exact ⟨Nat.le_add_right _ _, Nat.add_lt_add_left hr _, this.1, this.2⟩
theorem en_Si (h : ∀ c ∈ enF, c.before args s = true) (hts : ∀ w ∈ lw_tbl, w.before args s = true) (hA : ∀ a : Nat, a < s.heap.size → ¬ A a) : ∀ q ∈ fwSi, va_Z q.1 q.2.1 q.2.2.1 (.int q.2.2.2) A s s.heap := by
  intro q hq
  obtain ⟨r, hr, e⟩ := en_getD (d := ("", "", "", 0)) hq
  have g := en_si r hr
  rw [e] at g
  exact va_Zof (hts _ (en_sl _ (List.mem_map.mpr ⟨q, hq, rfl⟩))) (hts _ (en_sn _ (List.mem_map.mpr ⟨q, hq, rfl⟩))) (va_eqi (h _ (List.mem_of_getElem? g))) hA
theorem en_K (hts : ∀ w ∈ lw_tbl, w.before args s = true) : ∃ (dC : Nat → ClassId) (dI : Nat → Nat → Nat) (dA : FieldType → ClassId), ∀ (B : Nat) (kA : Nat → Nat), va_K (fwZ.D (dC, dI, dA, B, kA)) fwCl (fwTys (dC, dI, dA, B, kA)) s := by
  have hT : ∀ w ∈ fwT, w.before args s = true := fun w hw => hts w (List.mem_filter.mp hw).1
  have hk : ∀ k : Nat, ∃ q : ClassId × (Nat → Nat), ∀ c, fwCl[k]? = some c → u_Kn s c.1 c.2.1 c.2.2 q.1 q.2 := by
    intro k
    cases hc : fwCl[k]? with
    | none => exact ⟨(0, fun _ => 0), fun c h => by cases h⟩
    | some c =>
      obtain ⟨cC, iS, hK⟩ := u_known (n := c.2.2) hT (fwCl_ok k c hc).1 (hts _ (en_in _ (List.mem_map.mpr ⟨c, List.mem_of_getElem? hc, rfl⟩)))
      exact ⟨(cC, iS), fun c' h => by cases h; exact hK⟩
  have ha : ∀ t : FieldType, ∃ cA : ClassId, t ∈ fwAT → ArrOfT s cA t ∧ va_RA s cA t := by
    intro t
    by_cases ht : t ∈ fwAT
    · simp only [fwAT, List.mem_cons, List.not_mem_nil, or_false] at ht
      rcases ht with rfl | rfl | rfl | rfl
      · obtain ⟨cA, kA, comp, h1, h2, h3⟩ := Cond.arrayClass_spec (hT _ fwAc_byte)
        exact ⟨cA, fun _ => ⟨fun n z => ⟨fun k h => (by cases h), kA, h2, comp, h3⟩, h1⟩⟩
      · obtain ⟨cA, kA, comp, h1, h2, h3⟩ := Cond.arrayClass_spec (hT _ fwAc_int)
        exact ⟨cA, fun _ => ⟨fun n z => ⟨fun k h => (by cases h), kA, h2, comp, h3⟩, h1⟩⟩
      · obtain ⟨cA, kA, comp, h1, h2, h3⟩ := Cond.arrayClass_spec (hT _ fwAc_boolean)
        exact ⟨cA, fun _ => ⟨fun n z => ⟨fun k h => (by cases h), kA, h2, comp, h3⟩, h1⟩⟩
      · obtain ⟨cA, kA, comp, h1, h2, h3⟩ := Cond.arrayClass_spec (hT _ fwAc_long)
        exact ⟨cA, fun _ => ⟨fun n z => ⟨fun k h => (by cases h), kA, h2, comp, h3⟩, h1⟩⟩
    · exact ⟨0, fun h => absurd h ht⟩
  obtain ⟨dq, hdq⟩ := Classical.axiomOfChoice hk
  obtain ⟨dA, hdA⟩ := Classical.axiomOfChoice ha
  refine ⟨fun k => (dq k).1, fun k => (dq k).2, dA, fun B kA => ⟨fun c q h => hdq c q h, fun k q h => ?_⟩⟩
  unfold fwTys at h
  rw [List.getElem?_map] at h
  cases ht : fwAT[k]? with
  | none => rw [ht] at h; cases h
  | some t =>
    rw [ht] at h
    cases h
    exact hdA t (List.mem_of_getElem? ht)
end ENT
