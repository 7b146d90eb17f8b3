/-! CODES: each method's code word, by its place; closed by the kernel -/
abbrev pv_oC (i : Nat) : Prop := lw_tbl[pv_cp.getD i 0]? = some (.code (pv_nm i) (pv_cd i) (pv_mL i) (pv_rt i))
set_option maxRecDepth 100000 in
theorem pv_okC_0 : ∀ j, j < 12 → pv_oC (0 + j) := by decide +kernel
set_option maxRecDepth 100000 in
theorem pv_okC_1 : ∀ j, j < 12 → pv_oC (12 + j) := by decide +kernel
set_option maxRecDepth 100000 in
theorem pv_okC_2 : ∀ j, j < 12 → pv_oC (24 + j) := by decide +kernel
set_option maxRecDepth 100000 in
theorem pv_okC_3 : ∀ j, j < 12 → pv_oC (36 + j) := by decide +kernel
set_option maxRecDepth 100000 in
theorem pv_okC_4 : ∀ j, j < 12 → pv_oC (48 + j) := by decide +kernel
set_option maxRecDepth 100000 in
theorem pv_okC_5 : ∀ j, j < 12 → pv_oC (60 + j) := by decide +kernel
set_option maxRecDepth 100000 in
theorem pv_okC_6 : ∀ j, j < 12 → pv_oC (72 + j) := by decide +kernel
set_option maxRecDepth 100000 in
theorem pv_okC_7 : ∀ j, j < 12 → pv_oC (84 + j) := by decide +kernel
set_option maxRecDepth 100000 in
theorem pv_okC_8 : ∀ j, j < 12 → pv_oC (96 + j) := by decide +kernel
set_option maxRecDepth 100000 in
theorem pv_okC_9 : ∀ j, j < 12 → pv_oC (108 + j) := by decide +kernel
set_option maxRecDepth 100000 in
theorem pv_okC_10 : ∀ j, j < 12 → pv_oC (120 + j) := by decide +kernel
set_option maxRecDepth 100000 in
theorem pv_okC_11 : ∀ j, j < 12 → pv_oC (132 + j) := by decide +kernel
set_option maxRecDepth 100000 in
theorem pv_okC_12 : ∀ j, j < 12 → pv_oC (144 + j) := by decide +kernel
set_option maxRecDepth 100000 in
theorem pv_okC_13 : ∀ j, j < 12 → j = 10 ∨ pv_oC (156 + j) := by decide +kernel
theorem pv_okC (i : Nat) (h : i < 168) (h2 : i ≠ 166) : Cond.code (pv_nm i) (pv_cd i) (pv_mL i) (pv_rt i) ∈ pv_WL := by
  have hj : i % 12 < 12 := by omega
  rcases (by omega : i = 0 + i % 12 ∨ i = 12 + i % 12 ∨ i = 24 + i % 12 ∨ i = 36 + i % 12 ∨ i = 48 + i % 12 ∨ i = 60 + i % 12 ∨ i = 72 + i % 12 ∨ i = 84 + i % 12 ∨ i = 96 + i % 12 ∨ i = 108 + i % 12 ∨ i = 120 + i % 12 ∨ i = 132 + i % 12 ∨ i = 144 + i % 12 ∨ i = 156 + i % 12) with q | q | q | q | q | q | q | q | q | q | q | q | q | q
  · have z := pv_okC_0 _ hj
    rw [← q] at z
    exact pv_mem z rfl
  · have z := pv_okC_1 _ hj
    rw [← q] at z
    exact pv_mem z rfl
  · have z := pv_okC_2 _ hj
    rw [← q] at z
    exact pv_mem z rfl
  · have z := pv_okC_3 _ hj
    rw [← q] at z
    exact pv_mem z rfl
  · have z := pv_okC_4 _ hj
    rw [← q] at z
    exact pv_mem z rfl
  · have z := pv_okC_5 _ hj
    rw [← q] at z
    exact pv_mem z rfl
  · have z := pv_okC_6 _ hj
    rw [← q] at z
    exact pv_mem z rfl
  · have z := pv_okC_7 _ hj
    rw [← q] at z
    exact pv_mem z rfl
  · have z := pv_okC_8 _ hj
    rw [← q] at z
    exact pv_mem z rfl
  · have z := pv_okC_9 _ hj
    rw [← q] at z
    exact pv_mem z rfl
  · have z := pv_okC_10 _ hj
    rw [← q] at z
    exact pv_mem z rfl
  · have z := pv_okC_11 _ hj
    rw [← q] at z
    exact pv_mem z rfl
  · have z := pv_okC_12 _ hj
    rw [← q] at z
    exact pv_mem z rfl
  · rcases pv_okC_13 _ hj with z | z
    · omega
    · rw [← q] at z
      exact pv_mem z rfl
theorem pv_okPl : ∀ i, i < 166 → plainName (pv_nm i).cls = true := by decide +kernel
theorem pv_okIn : ∀ i, i < 168 → pv_in i = true → (pv_nm i).name = "<init>" := by decide +kernel
theorem pv_okOw : ∀ i, i < 168 → (pv_nm i).cls = pv_Rn (pv_ow i) := by decide +kernel
