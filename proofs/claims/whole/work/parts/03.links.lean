/-! LINKS: the words of the tables, by their places; each closed by the kernel -/
/-- the words that a contract carries -/
def pv_WL : List Cond := lw_tbl.filter goodWord
theorem pv_WL_good : ∀ w ∈ pv_WL, goodWord w = true := fun w h => (List.mem_filter.mp h).2
theorem pv_WL_in : ∀ w ∈ pv_WL, w ∈ lw_tbl := fun w h => (List.mem_filter.mp h).1
theorem pv_mem {w : Cond} {i : Nat} (h : lw_tbl[i]? = some w) (hg : goodWord w = true) : w ∈ pv_WL := List.mem_filter.mpr ⟨List.mem_of_getElem? h, hg⟩
def pv_wF (e : Nat × Nat × Nat × Nat × Nat) : Cond := .fieldLink (pv_Rn e.1) e.2.1 (pv_Rn e.2.2.1) (pv_T e.2.2.1 e.2.2.2.1).2.1 (pv_T e.2.2.1 e.2.2.2.1).2.2.1
set_option maxRecDepth 100000 in
theorem pv_okF : ∀ e ∈ pv_Fl, lw_tbl[e.2.2.2.2]? = some (pv_wF e) ∧ goodWord (pv_wF e) = true ∧ e.2.2.1 < 11 ∧ e.2.2.2.1 < pv_N e.2.2.1 ∧ (pv_T e.2.2.1 e.2.2.2.1).1 = pv_Rn e.2.2.1 := by decide +kernel
theorem pv_fl_ok {own idx : Nat} {e : Nat × Nat × Nat × Nat × Nat} (h : pv_fl own idx = some e) : Cond.fieldLink (pv_Rn own) idx (pv_Rn e.2.2.1) (pv_T e.2.2.1 e.2.2.2.1).2.1 (pv_T e.2.2.1 e.2.2.2.1).2.2.1 ∈ pv_WL ∧ e.2.2.1 < 11 ∧ e.2.2.2.1 < pv_N e.2.2.1 ∧ (pv_T e.2.2.1 e.2.2.2.1).1 = pv_Rn e.2.2.1 := by
  have h1 := List.find?_some h
  obtain ⟨a1, a2, a3⟩ := pv_okF e (List.mem_of_find?_eq_some h)
  simp only [Bool.and_eq_true, beq_iff_eq] at h1
  obtain ⟨rfl, rfl⟩ := h1
  exact ⟨pv_mem a1 a2, a3⟩
def pv_wM (e : Nat × Nat × Nat × Nat × List Nat) : List Cond :=
  let y := pv_nm e.2.2.2.1
  match e.2.2.1 with
  | 0 => [.methodLink (pv_Rn e.1) e.2.1 y, .instanceMethod y, .initialized y.cls, .selects y.cls y y]
  | 2 => [.methodLink (pv_Rn e.1) e.2.1 y, .static y, .initialized y.cls]
  | 3 => [.methodLinkNest (pv_Rn e.1) e.2.1 y "SinkingArchive", .static y, .initialized y.cls]
  | 4 => [.methodLink (pv_Rn e.1) e.2.1 y, .static y, .initialized y.cls]
  | 8 => [.methodLink (pv_Rn e.1) e.2.1 y, .static y, .initialized y.cls]
  | 5 => [.methodLink (pv_Rn e.1) e.2.1 y, .instanceMethod y, .initialized y.cls]
  | 6 => [.methodLink (pv_Rn e.1) e.2.1 Lib.objectInit]
  | 7 => [.methodLink (pv_Rn e.1) e.2.1 arraycopyName]
  | _ => []
/-- what else a call's row must know of the method: its class's number, its name's being a constructor's, how many arguments -/
def pv_fM (e : Nat × Nat × Nat × Nat × List Nat) : Bool :=
  let y := pv_nm e.2.2.2.1
  (decide (e.2.2.2.1 < 166) || decide (5 < e.2.2.1)) && decide (y.cls = pv_Rn (pv_ow e.2.2.2.1)) && decide ((parseMethodDescriptor y.desc).map (fun d => d.parameters.length) = some (pv_np e.2.2.2.1)) && decide (y.cls ≠ "java/lang/invoke/MethodHandle" ∧ y.cls ≠ "java/lang/invoke/VarHandle") &&
  (match e.2.2.1 with
  | 0 => decide (pv_ow e.2.2.2.1 < 11)
  | 2 => decide (pv_ow e.2.2.2.1 = e.1)
  | 3 => decide (e.2.2.2.2.take 1 ⊆ pv_Ne)
  | 4 => true
  | 8 => decide (e.2.2.2.1 = 167)
  | 5 => decide (y.name = "<init>") && decide (pv_rt e.2.2.2.1 = none)
  | 6 => true
  | 7 => true
  | _ => false)
abbrev pv_oM (e : Nat × Nat × Nat × Nat × List Nat) : Prop := e.2.2.2.2.map (fun i => lw_tbl[i]?) = (pv_wM e).map some ∧ (e.2.2.1 = 3 ∨ (pv_wM e).all goodWord = true) ∧ ((pv_wM e).drop 1).all goodWord = true ∧ pv_fM e = true
set_option maxRecDepth 100000 in
theorem pv_okM_0 : ∀ e ∈ pv_Ml_0, pv_oM e := by decide +kernel
set_option maxRecDepth 100000 in
theorem pv_okM_1 : ∀ e ∈ pv_Ml_1, pv_oM e := by decide +kernel
set_option maxRecDepth 100000 in
theorem pv_okM_2 : ∀ e ∈ pv_Ml_2, pv_oM e := by decide +kernel
set_option maxRecDepth 100000 in
theorem pv_okM_3 : ∀ e ∈ pv_Ml_3, pv_oM e := by decide +kernel
set_option maxRecDepth 100000 in
theorem pv_okM_4 : ∀ e ∈ pv_Ml_4, pv_oM e := by decide +kernel
set_option maxRecDepth 100000 in
theorem pv_okM_5 : ∀ e ∈ pv_Ml_5, pv_oM e := by decide +kernel
set_option maxRecDepth 100000 in
theorem pv_okM_6 : ∀ e ∈ pv_Ml_6, pv_oM e := by decide +kernel
set_option maxRecDepth 100000 in
theorem pv_okM_7 : ∀ e ∈ pv_Ml_7, pv_oM e := by decide +kernel
set_option maxRecDepth 100000 in
theorem pv_okM_8 : ∀ e ∈ pv_Ml_8, pv_oM e := by decide +kernel
set_option maxRecDepth 100000 in
theorem pv_okM_9 : ∀ e ∈ pv_Ml_9, pv_oM e := by decide +kernel
set_option maxRecDepth 100000 in
theorem pv_okM_10 : ∀ e ∈ pv_Ml_10, pv_oM e := by decide +kernel
set_option maxRecDepth 100000 in
theorem pv_okM_11 : ∀ e ∈ pv_Ml_11, pv_oM e := by decide +kernel
set_option maxRecDepth 100000 in
theorem pv_okM_12 : ∀ e ∈ pv_Ml_12, pv_oM e := by decide +kernel
theorem pv_okM : ∀ e ∈ pv_Ml, pv_oM e := by
  intro e h
  unfold pv_Ml at h
  simp only [List.mem_append] at h
  rcases h with h | h | h | h | h | h | h | h | h | h | h | h | h
  · exact pv_okM_0 e h
  · exact pv_okM_1 e h
  · exact pv_okM_2 e h
  · exact pv_okM_3 e h
  · exact pv_okM_4 e h
  · exact pv_okM_5 e h
  · exact pv_okM_6 e h
  · exact pv_okM_7 e h
  · exact pv_okM_8 e h
  · exact pv_okM_9 e h
  · exact pv_okM_10 e h
  · exact pv_okM_11 e h
  · exact pv_okM_12 e h
def pv_wN (e : Nat × Nat × Nat × List Nat) : List Cond := [.classLink (pv_Rn e.1) e.2.1 (pv_Rn e.2.2.1), .instantiable (pv_Rn e.2.2.1) (pv_N e.2.2.1), .initialized (pv_Rn e.2.2.1)]
set_option maxRecDepth 100000 in
theorem pv_okN : ∀ e ∈ pv_Nw, e.2.2.2.map (fun i => lw_tbl[i]?) = (pv_wN e).map some ∧ (pv_wN e).all goodWord = true ∧ e.2.2.1 < 11 := by decide +kernel
set_option maxRecDepth 100000 in
theorem pv_okKc : ∀ e ∈ pv_Kc, lw_tbl[e.2.2.2]? = some (.constant (pv_Rn e.1) e.2.1 e.2.2.1) ∧ goodWord (.constant (pv_Rn e.1) e.2.1 e.2.2.1) = true := by decide +kernel
set_option maxRecDepth 100000 in
theorem pv_okKl : ∀ e ∈ pv_Kl, lw_tbl[e.2.2.2]? = some (.constantLong (pv_Rn e.1) e.2.1 e.2.2.1) ∧ goodWord (.constantLong (pv_Rn e.1) e.2.1 e.2.2.1) = true := by decide +kernel
theorem pv_kc_ok {own idx : Nat} {e : Nat × Nat × Int32 × Nat} (h : pv_kc own idx = some e) : Cond.constant (pv_Rn own) idx e.2.2.1 ∈ pv_WL := by
  have h1 := List.find?_some h
  obtain ⟨a1, a2⟩ := pv_okKc e (List.mem_of_find?_eq_some h)
  simp only [Bool.and_eq_true, beq_iff_eq] at h1
  obtain ⟨rfl, rfl⟩ := h1
  exact pv_mem a1 a2
theorem pv_kl_ok {own idx : Nat} {e : Nat × Nat × Int64 × Nat} (h : pv_kl own idx = some e) : Cond.constantLong (pv_Rn own) idx e.2.2.1 ∈ pv_WL := by
  have h1 := List.find?_some h
  obtain ⟨a1, a2⟩ := pv_okKl e (List.mem_of_find?_eq_some h)
  simp only [Bool.and_eq_true, beq_iff_eq] at h1
  obtain ⟨rfl, rfl⟩ := h1
  exact pv_mem a1 a2
theorem pv_zip {ps : List Nat} {ws : List Cond} (h : ps.map (fun i => lw_tbl[i]?) = ws.map some) (hg : ws.all goodWord = true) : ∀ w ∈ ws, w ∈ pv_WL := by
  intro w hw
  have h1 : some w ∈ ps.map (fun i => lw_tbl[i]?) := by rw [h]; exact List.mem_map_of_mem hw
  obtain ⟨i, -, hi⟩ := List.mem_map.mp h1
  exact pv_mem hi (List.all_eq_true.mp hg w hw)
theorem pv_nw_ok {own idx : Nat} {e : Nat × Nat × Nat × List Nat} (h : pv_nw own idx = some e) : Cond.classLink (pv_Rn own) idx (pv_Rn e.2.2.1) ∈ pv_WL ∧ Cond.instantiable (pv_Rn e.2.2.1) (pv_N e.2.2.1) ∈ pv_WL ∧ Cond.initialized (pv_Rn e.2.2.1) ∈ pv_WL ∧ e.2.2.1 < 11 := by
  have h1 := List.find?_some h
  obtain ⟨a1, a2, a3⟩ := pv_okN e (List.mem_of_find?_eq_some h)
  simp only [Bool.and_eq_true, beq_iff_eq] at h1
  obtain ⟨rfl, rfl⟩ := h1
  have hz := pv_zip a1 a2
  exact ⟨hz _ (by simp [pv_wN]), hz _ (by simp [pv_wN]), hz _ (by simp [pv_wN]), a3⟩
/-- the class rows: vwCl read by number -/
theorem pv_cl (ci : Nat) (h : ci < 11) : vwCl[ci]? = some (pv_Rn ci, pv_T ci, pv_N ci) := by
  rcases (by omega : ci = 0 ∨ ci = 1 ∨ ci = 2 ∨ ci = 3 ∨ ci = 4 ∨ ci = 5 ∨ ci = 6 ∨ ci = 7 ∨ ci = 8 ∨ ci = 9 ∨ ci = 10) with rfl | rfl | rfl | rfl | rfl | rfl | rfl | rfl | rfl | rfl | rfl <;> rfl
theorem pv_nmOk (ci : Nat) (h : ci < 11) : ∀ a, a < pv_N ci → ∀ b, b < pv_N ci → a ≠ b → (pv_T ci a).2.1 ≠ (pv_T ci b).2.1 := by
  rcases (by omega : ci = 0 ∨ ci = 1 ∨ ci = 2 ∨ ci = 3 ∨ ci = 4 ∨ ci = 5 ∨ ci = 6 ∨ ci = 7 ∨ ci = 8 ∨ ci = 9 ∨ ci = 10) with rfl | rfl | rfl | rfl | rfl | rfl | rfl | rfl | rfl | rfl | rfl
  · exact nmX0
  · exact nmX1
  · exact nmX2
  · exact nmX3
  · exact nmX4
  · exact nmX5
  · exact nmX6
  · exact nmX7
  · exact nmX8
  · exact nmX9
  · exact nmX10
theorem pv_tyOk (ci : Nat) (h : ci < 11) : ∀ k, k < pv_N ci → parseFieldDescriptor (pv_T ci k).2.2.1 = some (pv_ty ci k) := by
  rcases (by omega : ci = 0 ∨ ci = 1 ∨ ci = 2 ∨ ci = 3 ∨ ci = 4 ∨ ci = 5 ∨ ci = 6 ∨ ci = 7 ∨ ci = 8 ∨ ci = 9 ∨ ci = 10) with rfl | rfl | rfl | rfl | rfl | rfl | rfl | rfl | rfl | rfl | rfl
  · exact tyX0_ok
  · exact tyX1_ok
  · exact tyX2_ok
  · exact tyX3_ok
  · exact tyX4_ok
  · exact tyX5_ok
  · exact tyX6_ok
  · exact tyX7_ok
  · exact tyX8_ok
  · exact tyX9_ok
  · exact tyX10_ok
set_option maxRecDepth 100000 in
theorem pv_okU : ∀ ci, ci < 11 → ∀ w ∈ u_ws (pv_Rn ci) (pv_T ci) (pv_N ci), w ∈ lw_tbl ∧ goodWord w = true := by decide +kernel
theorem pv_uIn (ci : Nat) (h : ci < 11) : ∀ w ∈ u_ws (pv_Rn ci) (pv_T ci) (pv_N ci), w ∈ pv_WL := fun w hw => List.mem_filter.mpr (pv_okU ci h w hw)
/-- the kind of a field and its type -/
def pv_kok (t : FieldType) (k : Nat) : Bool := match t, k with
  | .int, 0 => true
  | .boolean, 1 => true
  | .object _, 2 => true
  | .array _, 2 => true
  | _, _ => false
theorem pv_okK : ∀ ci, ci < 11 → ∀ k, k < pv_N ci → pv_kok (pv_ty ci k) (pv_K ci k) = true ∧ (pv_T ci k).2.2.2 = pv_Fi ci k := by decide +kernel
