/-! THE SMALL MACHINE'S WORLD IN THE HEAP: logical object o lies at bs + o -/
def pv_ad (bs sb o : Nat) : Nat := if o = pv_SC then sb else bs + o
theorem pv_ad_lt {bs sb o : Nat} (h : o < 1001) : pv_ad bs sb o = bs + o := if_neg (by unfold pv_SC; omega)
def pv_va (bs sb : Nat) (v : Value) : Value := match v with
  | .ref o => .ref (pv_ad bs sb o)
  | v => v
theorem pv_va_cat (bs sb : Nat) (v : Value) : (pv_va bs sb v).category = v.category := by cases v <;> rfl
theorem pv_va_rf (bs sb : Nat) (r : Option Nat) : pv_va bs sb (va_rf r) = va_rf (r.map (pv_ad bs sb)) := by cases r <;> rfl
theorem pv_va_catS (bs sb : Nat) (st : List Value) : ((st.map (pv_va bs sb)).map fun v => v.category).sum = pv_cat st := by
  unfold pv_cat
  rw [List.map_map]
  congr 1
  exact List.map_congr_left fun v _ => pv_va_cat bs sb v
def pv_fv (bs sb ci : Nat) (g : PvG) (h : PvH) (o k : Nat) : Value := if pv_K ci k = 2 then va_rf ((pv_rf g o k).map (pv_ad bs sb)) else .int (h o k)
def pv_en (dA : Nat → ClassId) (bs sb : Nat) (g : PvG) (h : PvH) (o : Nat) : va_E :=
  if (pv_tg g o).1 < 100 then .inr ((pv_tg g o).1, (List.range (pv_N (pv_tg g o).1)).map (fun k => pv_fv bs sb (pv_tg g o).1 g h o k))
  else if (pv_tg g o).1 < 102 then .inl (dA ((pv_tg g o).1 - 100), (pv_tg g o).2, .inl (h o))
  else .inl (dA ((pv_tg g o).1 - 100), (pv_tg g o).2, .inr (.inr (.inr (.inr (fun j => (pv_rf g o j).map (pv_ad bs sb))))))
def pv_ws (dA : Nat → ClassId) (bs sb : Nat) (g : PvG) (h : PvH) : va_W := (List.range g.1).map (fun o => (bs + o, pv_en dA bs sb g h o))
def pv_tys (dA : Nat → ClassId) : List (ClassId × FieldType) := [(dA 0, .int), (dA 1, .boolean), (dA 2, .object RX6), (dA 3, .array .int)]
def pv_Hp (D : va_G) (dA : Nat → ClassId) (bs sb : Nat) (g : PvG) (h : PvH) (H : Heap) : Prop := g.1 ≤ 1000 ∧ (∀ o, g.1 ≤ o → (pv_tg g o).1 = 999) ∧ va_P D vwCl (pv_ws dA bs sb g h) H
theorem pv_ws_at (dA : Nat → ClassId) (bs sb : Nat) (g : PvG) (h : PvH) {o : Nat} (ho : o < g.1) : (pv_ws dA bs sb g h)[o]? = some (bs + o, pv_en dA bs sb g h o) := by
  unfold pv_ws
  rw [List.getElem?_map, List.getElem?_range ho]
  rfl
theorem pv_ws_len (dA : Nat → ClassId) (bs sb : Nat) (g : PvG) (h : PvH) : (pv_ws dA bs sb g h).length = g.1 := by simp [pv_ws]
theorem pv_ws_inv (dA : Nat → ClassId) (bs sb : Nat) (g : PvG) (h : PvH) {k : Nat} {q : Nat × va_E} (hk : (pv_ws dA bs sb g h)[k]? = some q) : k < g.1 ∧ q.1 = bs + k := by
  have hl := (List.getElem?_eq_some_iff.mp hk).1
  rw [pv_ws_len] at hl
  rw [pv_ws_at dA bs sb g h hl] at hk
  cases hk
  exact ⟨hl, rfl⟩
theorem pv_wsD (dA : Nat → ClassId) (bs sb : Nat) (g : PvG) (h : PvH) : va_D (fun q => bs ≤ q) (pv_ws dA bs sb g h) := by
  refine ⟨fun i j p q hi hj hpq => ?_, fun k q hk => ?_⟩
  · have a := pv_ws_inv dA bs sb g h hi
    have b := pv_ws_inv dA bs sb g h hj
    omega
  · have a := pv_ws_inv dA bs sb g h hk
    show bs ≤ q.1
    omega
theorem pv_ws_set (dA : Nat → ClassId) (bs sb : Nat) {g g' : PvG} {h h' : PvH} {o : Nat} {e : va_E} (hn : g'.1 = g.1) (he : pv_en dA bs sb g' h' o = e) (hr : ∀ a, a ≠ o → pv_en dA bs sb g' h' a = pv_en dA bs sb g h a) : (pv_ws dA bs sb g h).set o (bs + o, e) = pv_ws dA bs sb g' h' := by
  apply List.ext_getElem?
  intro i
  by_cases hi : i < g.1
  · rw [pv_ws_at dA bs sb g' h' (by omega)]
    by_cases ho : o = i
    · subst ho
      rw [List.getElem?_set_self (by rw [pv_ws_len]; exact hi), he]
    · rw [List.getElem?_set_ne ho, pv_ws_at dA bs sb g h hi, hr i (Ne.symm ho)]
  · rw [List.getElem?_eq_none (by rw [List.length_set, pv_ws_len]; omega), List.getElem?_eq_none (by rw [pv_ws_len]; omega)]
theorem pv_Hp_lt {D : va_G} {dA : Nat → ClassId} {bs sb : Nat} {g : PvG} {h : PvH} {H : Heap} (hH : pv_Hp D dA bs sb g h H) {o : Nat} (ho : (pv_tg g o).1 ≠ 999) : o < g.1 ∧ pv_ad bs sb o = bs + o := by
  rcases Nat.lt_or_ge o g.1 with a | a
  · exact ⟨a, pv_ad_lt (by have := hH.1; omega)⟩
  · exact absurd (hH.2.1 o a) ho
/-- an entry reads of its own row alone -/
theorem pv_en_congr (dA : Nat → ClassId) (bs sb : Nat) {g g' : PvG} {h h' : PvH} {a : Nat} (ht : pv_tg g' a = pv_tg g a) (hr : ∀ k, pv_rf g' a k = pv_rf g a k) (hh : h' a = h a) : pv_en dA bs sb g' h' a = pv_en dA bs sb g h a := by
  have e1 : (fun j => (pv_rf g' a j).map (pv_ad bs sb)) = (fun j => (pv_rf g a j).map (pv_ad bs sb)) := funext fun j => by rw [hr]
  have e2 : ∀ ci, (fun k => pv_fv bs sb ci g' h' a k) = (fun k => pv_fv bs sb ci g h a k) := fun ci => funext fun k => by unfold pv_fv; rw [hr, hh]
  unfold pv_en
  rw [ht, hh, e1, e2]
theorem pv_st_ne (h : PvH) {o a : Nat} (k : Nat) (v : Int32) (ha : a ≠ o) : pv_st h o k v a = h a := funext fun j => if_neg fun q => ha q.1
theorem pv_st_at (h : PvH) (o k : Nat) (v : Int32) : pv_st h o k v o = upd (h o) k v := funext fun j => by simp [pv_st, upd]
theorem pv_sr_ne (g : PvG) {o a : Nat} (k : Nat) (v : Option Nat) (ha : a ≠ o) (j : Nat) : pv_rf (pv_sr g o k v) a j = pv_rf g a j := if_neg fun q => ha q.1
theorem pv_sr_at (g : PvG) (o k : Nat) (v : Option Nat) (j : Nat) : pv_rf (pv_sr g o k v) o j = if j = k then v else pv_rf g o j := by simp [pv_rf, pv_sr]
/-- a field of ints written -/
theorem pv_en_putI (dA : Nat → ClassId) (bs sb : Nat) {g : PvG} {h : PvH} {o ci k : Nat} {x : Int32} (ht : (pv_tg g o).1 = ci) (hc : ci < 11) (hk : pv_K ci k ≠ 2) : pv_en dA bs sb g (pv_st h o k x) o = .inr (ci, ((List.range (pv_N ci)).map (fun k => pv_fv bs sb ci g h o k)).set k (.int x)) := by
  unfold pv_en
  rw [ht, if_pos (by omega)]
  congr 2
  apply List.ext_getElem?
  intro i
  by_cases hi : i < pv_N ci
  · by_cases hik : k = i
    · subst hik
      rw [List.getElem?_set_self (by simpa using hi), List.getElem?_map, List.getElem?_range hi]
      simp [pv_fv, hk, pv_st]
    · rw [List.getElem?_set_ne hik, List.getElem?_map, List.getElem?_map, List.getElem?_range hi]
      have : ¬ i = k := fun q => hik q.symm
      simp [pv_fv, pv_st, this]
  · rw [List.getElem?_eq_none (by simpa using hi), List.getElem?_eq_none (by simpa using hi)]
theorem pv_en_putR (dA : Nat → ClassId) (bs sb : Nat) {g : PvG} {h : PvH} {o ci k x : Nat} (ht : (pv_tg g o).1 = ci) (hc : ci < 11) (hk : pv_K ci k = 2) : pv_en dA bs sb (pv_sr g o k (some x)) h o = .inr (ci, ((List.range (pv_N ci)).map (fun k => pv_fv bs sb ci g h o k)).set k (.ref (pv_ad bs sb x))) := by
  have ht' : (pv_tg (pv_sr g o k (some x)) o).1 = ci := ht
  unfold pv_en
  rw [ht', if_pos (by omega)]
  congr 2
  apply List.ext_getElem?
  intro i
  by_cases hi : i < pv_N ci
  · by_cases hik : k = i
    · subst hik
      rw [List.getElem?_set_self (by simpa using hi), List.getElem?_map, List.getElem?_range hi]
      simp [pv_fv, hk, pv_sr_at, va_rf]
    · rw [List.getElem?_set_ne hik, List.getElem?_map, List.getElem?_map, List.getElem?_range hi]
      have : ¬ i = k := fun q => hik q.symm
      simp [pv_fv, pv_sr_at, this]
  · rw [List.getElem?_eq_none (by simpa using hi), List.getElem?_eq_none (by simpa using hi)]
theorem pv_fv_at (bs sb : Nat) {g : PvG} {h : PvH} {o ci k : Nat} (hk : k < pv_N ci) : ((List.range (pv_N ci)).map (fun k => pv_fv bs sb ci g h o k))[k]? = some (pv_fv bs sb ci g h o k) := by
  rw [List.getElem?_map, List.getElem?_range hk]
  rfl
theorem pv_en_obj (dA : Nat → ClassId) (bs sb : Nat) {g : PvG} {h : PvH} {o ci : Nat} (ht : (pv_tg g o).1 = ci) (hc : ci < 11) : pv_en dA bs sb g h o = .inr (ci, (List.range (pv_N ci)).map (fun k => pv_fv bs sb ci g h o k)) := by
  unfold pv_en
  rw [ht, if_pos (by omega)]
theorem pv_en_arr (dA : Nat → ClassId) (bs sb : Nat) {g : PvG} {h : PvH} {o t : Nat} (ht : (pv_tg g o).1 = t) (h1 : 100 ≤ t) (h2 : t < 102) : pv_en dA bs sb g h o = .inl (dA (t - 100), (pv_tg g o).2, .inl (h o)) := by
  unfold pv_en
  rw [ht, if_neg (by omega), if_pos (by omega)]
theorem pv_en_arq (dA : Nat → ClassId) (bs sb : Nat) {g : PvG} {h : PvH} {o t : Nat} (ht : (pv_tg g o).1 = t) (h1 : 102 ≤ t) : pv_en dA bs sb g h o = .inl (dA (t - 100), (pv_tg g o).2, .inr (.inr (.inr (.inr (fun j => (pv_rf g o j).map (pv_ad bs sb)))))) := by
  unfold pv_en
  rw [ht, if_neg (by omega), if_neg (by omega)]
/-- a set entry is again a world -/
theorem pv_Hp_set {D : va_G} {dA : Nat → ClassId} {bs sb : Nat} {g g' : PvG} {h h' : PvH} {H H1 : Heap} (hH : pv_Hp D dA bs sb g h H) {o : Nat} {e : va_E} (hn : g'.1 = g.1) (ht : ∀ a, pv_tg g' a = pv_tg g a) (he : pv_en dA bs sb g' h' o = e) (hr : ∀ a, a ≠ o → pv_en dA bs sb g' h' a = pv_en dA bs sb g h a) (hP : va_P D vwCl ((pv_ws dA bs sb g h).set o (bs + o, e)) H1) : pv_Hp D dA bs sb g' h' H1 := by
  rw [pv_ws_set dA bs sb hn he hr] at hP
  exact ⟨by rw [hn]; exact hH.1, fun a ha => by rw [ht]; exact hH.2.1 a (by rw [← hn]; exact ha), hP⟩
/-- a pushed entry is again a world -/
theorem pv_ws_push (dA : Nat → ClassId) (bs sb : Nat) {g g' : PvG} {h h' : PvH} {e : va_E} (hn : g'.1 = g.1 + 1) (he : pv_en dA bs sb g' h' g.1 = e) (hr : ∀ a, a < g.1 → pv_en dA bs sb g' h' a = pv_en dA bs sb g h a) : pv_ws dA bs sb g h ++ [(bs + g.1, e)] = pv_ws dA bs sb g' h' := by
  unfold pv_ws
  rw [hn, List.range_succ, List.map_append]
  congr 1
  · exact List.map_congr_left fun a ha => by rw [hr a (List.mem_range.mp ha)]
  · simp [he]
/-! locals -/
def pv_lv (bs sb : Nat) (ls : PvL) : List (Nat × Value) := (List.range ls.length).filterMap fun i => match ls[i]? with
  | some (some v) => some (i, pv_va bs sb v)
  | _ => none
theorem pv_lv_mem {bs sb : Nat} {ls : PvL} {i : Nat} {v : Value} (h : ls[i]? = some (some v)) : (i, pv_va bs sb v) ∈ pv_lv bs sb ls := by
  refine List.mem_filterMap.mpr ⟨i, List.mem_range.mpr (List.getElem?_eq_some_iff.mp h).1, ?_⟩
  rw [h]
theorem pv_lv_of {bs sb : Nat} {ls : PvL} {q : Nat × Value} (h : q ∈ pv_lv bs sb ls) : ∃ v, ls[q.1]? = some (some v) ∧ q.2 = pv_va bs sb v := by
  obtain ⟨i, -, hi⟩ := List.mem_filterMap.mp h
  split at hi
  · next v hv => cases hi; exact ⟨v, hv, rfl⟩
  · cases hi
def pv_LR (bs sb nL : Nat) (ls : PvL) (lsA : Array Slot) : Prop := ls.length = nL ∧ lv_has lsA nL (pv_lv bs sb ls)
theorem pv_LR_at {bs sb nL : Nat} {ls : PvL} {lsA : Array Slot} (h : pv_LR bs sb nL ls lsA) {i : Nat} {v : Value} (hi : ls[i]? = some (some v)) : lsA[i]? = some (.val (pv_va bs sb v)) := h.2.2.2 _ (pv_lv_mem hi)
theorem pv_okS {bs sb : Nat} {ls : PvL} {k i : Nat} {v : Value} (h : pv_ok ls k = true) (hi : ls[i]? = some (some v)) (hk : i + 1 = k) : ¬ (pv_va bs sb v).category = 2 := by
  subst hk
  unfold pv_ok at h
  simp only [hi] at h
  rw [pv_va_cat]
  intro z
  rw [z] at h
  cases h
theorem pv_LR_set {bs sb nL : Nat} {ls : PvL} {lsA : Array Slot} {k : Nat} {v : Value} (hk : k < ls.length) (ho : pv_ok ls k = true) (hn : ls.length = nL) (h : lv_has lsA nL ((k, pv_va bs sb v) :: (pv_lv bs sb ls).filter (fun q => !(q.1 == k) && !(q.1 + 1 == k && q.2.category == 2)))) : pv_LR bs sb nL (ls.set k (some v)) lsA := by
  refine ⟨by simp [hn], h.1, h.2.1, fun q hq => ?_⟩
  obtain ⟨w, hw, he⟩ := pv_lv_of hq
  rw [he]
  by_cases hqk : q.1 = k
  · rw [hqk, List.getElem?_set_self hk] at hw
    cases hw
    rw [hqk]
    exact h.2.2 (k, _) List.mem_cons_self
  · rw [List.getElem?_set_ne (Ne.symm hqk)] at hw
    refine h.2.2 (q.1, _) (List.mem_cons_of_mem _ (List.mem_filter.mpr ⟨pv_lv_mem hw, ?_⟩))
    have h2 : q.1 + 1 = k → ¬ (pv_va bs sb w).category = 2 := fun z => pv_okS ho hw z
    simp only [Bool.and_eq_true, Bool.not_eq_true', beq_eq_false_iff_ne, Bool.and_eq_false_iff]
    refine ⟨hqk, ?_⟩
    by_cases z : q.1 + 1 = k
    · exact Or.inr (h2 z)
    · exact Or.inl z
theorem pv_LR_set2 {bs sb nL : Nat} {ls : PvL} {lsA : Array Slot} {k : Nat} {v : Value} (hk : k + 1 < ls.length) (ho : pv_ok ls k = true) (hn : ls.length = nL) (h : lv_has lsA nL ((k, pv_va bs sb v) :: (pv_lv bs sb ls).filter (fun q => !(q.1 == k) && (!(q.1 == k + 1) && !(q.1 + 1 == k && q.2.category == 2))))) : pv_LR bs sb nL ((ls.set k (some v)).set (k + 1) none) lsA := by
  refine ⟨by simp [hn], h.1, h.2.1, fun q hq => ?_⟩
  obtain ⟨w, hw, he⟩ := pv_lv_of hq
  rw [he]
  by_cases hq1 : q.1 = k + 1
  · rw [hq1, List.getElem?_set_self (by simpa using hk)] at hw
    cases hw
  · rw [List.getElem?_set_ne (Ne.symm hq1)] at hw
    by_cases hqk : q.1 = k
    · rw [hqk, List.getElem?_set_self (by omega)] at hw
      cases hw
      rw [hqk]
      exact h.2.2 (k, _) List.mem_cons_self
    · rw [List.getElem?_set_ne (Ne.symm hqk)] at hw
      refine h.2.2 (q.1, _) (List.mem_cons_of_mem _ (List.mem_filter.mpr ⟨pv_lv_mem hw, ?_⟩))
      have h2 : q.1 + 1 = k → ¬ (pv_va bs sb w).category = 2 := fun z => pv_okS ho hw z
      simp only [Bool.and_eq_true, Bool.not_eq_true', beq_eq_false_iff_ne, Bool.and_eq_false_iff]
      refine ⟨hqk, hq1, ?_⟩
      by_cases z : q.1 + 1 = k
      · exact Or.inr (h2 z)
      · exact Or.inl z
/-- the entry's locals -/
theorem pv_sl_len (bs sb : Nat) : ∀ vs : List Value, (pv_sl vs).length = (lg_sl (vs.map (pv_va bs sb))).length
  | [] => rfl
  | v :: vs => by
    have ih := pv_sl_len bs sb vs
    unfold pv_sl lg_sl at ih ⊢
    simp only [List.map_cons, List.flatMap_cons, List.length_append, pv_va_cat]
    rw [ih]
    split <;> rfl
theorem pv_sl_at (bs sb : Nat) : ∀ (vs : List Value) (i : Nat) (v : Value), (pv_sl vs)[i]? = some (some v) → (lg_sl (vs.map (pv_va bs sb)))[i]? = some (.val (pv_va bs sb v))
  | [], i, v, h => by simp [pv_sl] at h
  | w :: vs, i, v, h => by
    have ih := pv_sl_at bs sb vs
    have e1 : pv_sl (w :: vs) = (if w.category = 2 then [some w, none] else [some w]) ++ pv_sl vs := rfl
    have e2 : lg_sl ((w :: vs).map (pv_va bs sb)) = (if w.category = 2 then [Slot.val (pv_va bs sb w), .second] else [.val (pv_va bs sb w)]) ++ lg_sl (vs.map (pv_va bs sb)) := by
      show lg_sl (pv_va bs sb w :: vs.map (pv_va bs sb)) = _
      unfold lg_sl
      rw [List.flatMap_cons, pv_va_cat]
    rw [e1] at h
    rw [e2]
    split at h
    · next hc =>
      rw [if_pos hc]
      match i, h with
      | 0, h => cases h; rfl
      | 1, h => cases h
      | i + 2, h => exact ih i v h
    · next hc =>
      rw [if_neg hc]
      match i, h with
      | 0, h => cases h; rfl
      | i + 1, h => exact ih i v h
theorem pv_LR_ent {bs sb n : Nat} {vs : List Value} (h : (pv_sl vs).length ≤ n) : pv_LR bs sb n (pv_ent n vs) ((lg_sl (vs.map (pv_va bs sb)) ++ List.replicate (n - (lg_sl (vs.map (pv_va bs sb))).length) Slot.unset).toArray) := by
  have hl := pv_sl_len bs sb vs
  have hh := lv_entry (vs.map (pv_va bs sb)) (n := n) (by rw [← hl]; exact h)
  refine ⟨by unfold pv_ent; rw [List.length_append, List.length_replicate]; omega, hh.1, hh.2.1, fun q hq => ?_⟩
  obtain ⟨v, hv, he⟩ := pv_lv_of hq
  rw [he, List.getElem?_toArray]
  unfold pv_ent at hv
  by_cases hi : q.1 < (pv_sl vs).length
  · rw [List.getElem?_append_left hi] at hv
    rw [List.getElem?_append_left (by rw [← hl]; exact hi)]
    exact pv_sl_at bs sb vs _ _ hv
  · rw [List.getElem?_append_right (by omega)] at hv
    have := List.mem_of_getElem? hv
    rw [List.mem_replicate] at this
    exact absurd this.2 (by simp)
