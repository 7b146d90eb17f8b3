/-! the class's and the model's loops that only add up (by program, wip/whole/mk17.py) -/
theorem m43 {d : Nat} {P : PvP} {g : PvG} {h : PvH} {o f : Nat} {t : ST} {s : SS} (G : gS g o) (S : cS h o (tR t) s) (hD : sD s < 256) (hR : tR t ≤ 8) (hf : f < 2 ^ 31) (hp : ∀ r, r < tR t → sP s r < 2 ^ 31) (hP : P (some (.int (nI (onF s f (tR t))))) g h) : pv_run (d + 3) 43 [.ref o, .int (nI f), .int (nI (tR t))] g h P := by
  have loop : ∀ n r, r + n = tR t → pv_E (d + 2) 43 P 5 [some (.ref o), some (.int (nI f)), some (.int (nI (tR t))), some (.int (nI (onF s f r))), some (.int (nI r))] [] 0 0 g h := by
    intro n
    induction n with
    | zero =>
      intro r hr
      have hr : r = tR t := hr
      subst hr
      rw [z43_5]
      simp only [z43_0, z43_1, z43_2, z43_3, z43_7, z43_8, z43_11, z43_12, z43_14, z43_17, z43_20, z43_21, z43_24, z43_26, z43_27, z43_28, z43_31, z43_32, z43_33, z43_35, z43_36, z43_37, z43_38, z43_41, z43_44, z43_45, pv_catN, pv_cat1, pv_cat2, pv_cat3, pv_catL, Option.toList, List.nil_append, List.cons_append, List.append_nil, pv_rfS, pn_i, pn_r, pn_n, pn_o, true_and, and_true, Nat.le_refl, and_self, true_implies, false_implies, not_true_eq_false, not_false_eq_true, pv_b0, pv_b01, pv_bn0, pv_b1, Bool.false_eq_true, Bool.true_eq_false, Bool.not_false, Bool.not_true, pv_bT, pv_bF, eq_self,  nI_le' (show tR t < 2 ^ 31 by omega) (show tR t < 2 ^ 31 by omega)]
      exact hP
    | succ n ih =>
      intro r hr
      rw [z43_5]
      simp only [z43_0, z43_1, z43_2, z43_3, z43_7, z43_8, z43_11, z43_12, z43_14, z43_17, z43_20, z43_21, z43_24, z43_26, z43_27, z43_28, z43_31, z43_32, z43_33, z43_35, z43_36, z43_37, z43_38, z43_41, z43_44, z43_45, pv_catN, pv_cat1, pv_cat2, pv_cat3, pv_catL, Option.toList, List.nil_append, List.cons_append, List.append_nil, pv_rfS, pn_i, pn_r, pn_n, pn_o, true_and, and_true, Nat.le_refl, and_self, true_implies, false_implies, not_true_eq_false, not_false_eq_true, pv_b0, pv_b01, pv_bn0, pv_b1, Bool.false_eq_true, Bool.true_eq_false, Bool.not_false, Bool.not_true, pv_bT, pv_bF, eq_self, nI_le' (show tR t < 2 ^ 31 by omega) (show r < 2 ^ 31 by omega), show (tR t ≤ r) = False from eq_false (by omega), vp_nI (show r < 8 by omega) (by decide), nI_clamp (show r < 2 ^ 31 by omega), nI_add, nI_1, m42 G S hD (show r < 32 by omega), G.1, G.2.1, G.2.2.2.2.1, S.1 r (by omega), nI_eq' (hp r (by omega)) hf, shlN (show r < 31 by omega), fa_or]
      have e : onF s f (r + 1) = onF s f r ||| (if th s r && decide (sP s r = f) then 2 ^ r else 0) := rfl
      have := ih (r + 1) (by omega)
      rw [e] at this
      by_cases c0 : th s r = true
      <;> by_cases c1 : sP s r = f
      <;> simpa [c0, c1, nI, pv_b, Int32.add_zero] using this
  simp only [e43, z43_0, z43_1, z43_2, z43_3, z43_7, z43_8, z43_11, z43_12, z43_14, z43_17, z43_20, z43_21, z43_24, z43_26, z43_27, z43_28, z43_31, z43_32, z43_33, z43_35, z43_36, z43_37, z43_38, z43_41, z43_44, z43_45, pv_catN, pv_cat1, pv_cat2, pv_cat3, pv_catL, Option.toList, List.nil_append, List.cons_append, List.append_nil, pv_rfS, pn_i, pn_r, pn_n, pn_o, true_and, and_true, Nat.le_refl, and_self, true_implies, false_implies, not_true_eq_false, not_false_eq_true, pv_b0, pv_b01, pv_bn0, pv_b1, Bool.false_eq_true, Bool.true_eq_false, Bool.not_false, Bool.not_true, pv_bT, pv_bF, eq_self]
  exact loop (tR t) 0 (Nat.zero_add _)
theorem m44 {d : Nat} {P : PvP} {g : PvG} {h : PvH} {o : Nat} {t : ST} {s : SS} (G : gS g o) (S : cS h o (tR t) s) (hD : sD s < 256) (hR : tR t ≤ 8) (hk : ∀ r, r < tR t → sK s r ≤ 3) (hP : P (some (.int (nI (kept s (tR t))))) g h) : pv_run (d + 3) 44 [.ref o, .int (nI (tR t))] g h P := by
  have loop : ∀ n r, r + n = tR t → pv_E (d + 2) 44 P 4 [some (.ref o), some (.int (nI (tR t))), some (.int (nI (kept s r))), some (.int (nI r))] [] 0 0 g h := by
    intro n
    induction n with
    | zero =>
      intro r hr
      have hr : r = tR t := hr
      subst hr
      rw [z44_4]
      simp only [z44_0, z44_1, z44_2, z44_3, z44_5, z44_6, z44_9, z44_10, z44_11, z44_14, z44_17, z44_18, z44_21, z44_22, z44_23, z44_24, z44_27, z44_28, z44_29, z44_32, z44_33, z44_34, z44_35, z44_36, z44_39, z44_42, z44_43, pv_catN, pv_cat1, pv_cat2, pv_cat3, pv_catL, Option.toList, List.nil_append, List.cons_append, List.append_nil, pv_rfS, pn_i, pn_r, pn_n, pn_o, true_and, and_true, Nat.le_refl, and_self, true_implies, false_implies, not_true_eq_false, not_false_eq_true, pv_b0, pv_b01, pv_bn0, pv_b1, Bool.false_eq_true, Bool.true_eq_false, Bool.not_false, Bool.not_true, pv_bT, pv_bF, eq_self,  nI_le' (show tR t < 2 ^ 31 by omega) (show tR t < 2 ^ 31 by omega)]
      exact hP
    | succ n ih =>
      intro r hr
      rw [z44_4]
      simp only [z44_0, z44_1, z44_2, z44_3, z44_5, z44_6, z44_9, z44_10, z44_11, z44_14, z44_17, z44_18, z44_21, z44_22, z44_23, z44_24, z44_27, z44_28, z44_29, z44_32, z44_33, z44_34, z44_35, z44_36, z44_39, z44_42, z44_43, pv_catN, pv_cat1, pv_cat2, pv_cat3, pv_catL, Option.toList, List.nil_append, List.cons_append, List.append_nil, pv_rfS, pn_i, pn_r, pn_n, pn_o, true_and, and_true, Nat.le_refl, and_self, true_implies, false_implies, not_true_eq_false, not_false_eq_true, pv_b0, pv_b01, pv_bn0, pv_b1, Bool.false_eq_true, Bool.true_eq_false, Bool.not_false, Bool.not_true, pv_bT, pv_bF, eq_self, nI_le' (show tR t < 2 ^ 31 by omega) (show r < 2 ^ 31 by omega), show (tR t ≤ r) = False from eq_false (by omega), vp_nI (show r < 8 by omega) (by decide), nI_clamp (show r < 2 ^ 31 by omega), nI_add, nI_1, m42 G S hD (show r < 32 by omega), G.1, G.2.1, G.2.2.1, G.2.2.2.1, G.2.2.2.2.1, G.2.2.2.2.2.1, G.2.2.2.2.2.2, S.2.1 r (by omega), S.2.2.1 r (by omega), show (2 : Int32) = nI 2 from rfl, nI_eq' (show sK s r < 2 ^ 31 by have := hk r (by omega); omega) (show 2 < 2 ^ 31 by decide)]
      have e : kept s (r + 1) = kept s r + (if th s r && !decide (sK s r = 2) then sV s r else 0) := rfl
      have := ih (r + 1) (by omega)
      rw [e] at this
      by_cases c0 : th s r = true
      <;> by_cases c1 : sK s r = 2
      <;> simpa [c0, c1, nI, pv_b, Int32.add_zero] using this
  simp only [e44, z44_0, z44_1, z44_2, z44_3, z44_5, z44_6, z44_9, z44_10, z44_11, z44_14, z44_17, z44_18, z44_21, z44_22, z44_23, z44_24, z44_27, z44_28, z44_29, z44_32, z44_33, z44_34, z44_35, z44_36, z44_39, z44_42, z44_43, pv_catN, pv_cat1, pv_cat2, pv_cat3, pv_catL, Option.toList, List.nil_append, List.cons_append, List.append_nil, pv_rfS, pn_i, pn_r, pn_n, pn_o, true_and, and_true, Nat.le_refl, and_self, true_implies, false_implies, not_true_eq_false, not_false_eq_true, pv_b0, pv_b01, pv_bn0, pv_b1, Bool.false_eq_true, Bool.true_eq_false, Bool.not_false, Bool.not_true, pv_bT, pv_bF, eq_self]
  exact loop (tR t) 0 (Nat.zero_add _)
theorem m45 {d : Nat} {P : PvP} {g : PvG} {h : PvH} {o p : Nat} {t : ST} {s : SS} (G : gS g o) (S : cS h o (tR t) s) (hD : sD s < 256) (hR : tR t ≤ 8) (Gt : gT g p) (T : cT h p t) (hw : ∀ r, r < tR t → th s r = true → sH s ≤ sP s r) (hP : P (some (.int (nI (steps t s)))) g h) : pv_run (d + 3) 45 [.ref o, .ref p] g h P := by
  have loop : ∀ n r, r + n = tR t → pv_E (d + 2) 45 P 4 [some (.ref o), some (.ref p), some (.int (nI (sm (fun r => if th s r then tA t r * (sP s r - sH s) else 0) r))), some (.int (nI r))] [] 0 0 g h := by
    intro n
    induction n with
    | zero =>
      intro r hr
      have hr : r = tR t := hr
      subst hr
      rw [z45_4]
      simp only [z45_0, z45_1, z45_2, z45_3, z45_5, z45_6, z45_9, z45_12, z45_13, z45_14, z45_17, z45_20, z45_21, z45_22, z45_25, z45_26, z45_27, z45_28, z45_31, z45_32, z45_33, z45_34, z45_37, z45_38, z45_39, z45_40, z45_41, z45_44, z45_47, z45_48, pv_catN, pv_cat1, pv_cat2, pv_cat3, pv_catL, Option.toList, List.nil_append, List.cons_append, List.append_nil, pv_rfS, pn_i, pn_r, pn_n, pn_o, true_and, and_true, Nat.le_refl, and_self, true_implies, false_implies, not_true_eq_false, not_false_eq_true, pv_b0, pv_b01, pv_bn0, pv_b1, Bool.false_eq_true, Bool.true_eq_false, Bool.not_false, Bool.not_true, pv_bT, pv_bF, eq_self, Gt.1, T.2.2.1,  nI_le' (show tR t < 2 ^ 31 by omega) (show tR t < 2 ^ 31 by omega)]
      exact hP
    | succ n ih =>
      intro r hr
      rw [z45_4]
      simp only [z45_0, z45_1, z45_2, z45_3, z45_5, z45_6, z45_9, z45_12, z45_13, z45_14, z45_17, z45_20, z45_21, z45_22, z45_25, z45_26, z45_27, z45_28, z45_31, z45_32, z45_33, z45_34, z45_37, z45_38, z45_39, z45_40, z45_41, z45_44, z45_47, z45_48, pv_catN, pv_cat1, pv_cat2, pv_cat3, pv_catL, Option.toList, List.nil_append, List.cons_append, List.append_nil, pv_rfS, pn_i, pn_r, pn_n, pn_o, true_and, and_true, Nat.le_refl, and_self, true_implies, false_implies, not_true_eq_false, not_false_eq_true, pv_b0, pv_b01, pv_bn0, pv_b1, Bool.false_eq_true, Bool.true_eq_false, Bool.not_false, Bool.not_true, pv_bT, pv_bF, eq_self, nI_le' (show tR t < 2 ^ 31 by omega) (show r < 2 ^ 31 by omega), show (tR t ≤ r) = False from eq_false (by omega), vp_nI (show r < 8 by omega) (by decide), nI_clamp (show r < 2 ^ 31 by omega), nI_add, nI_1, m42 G S hD (show r < 32 by omega), G.1, G.2.1, G.2.2.2.2.1, Gt.1, Gt.2.2.2.2.1, Gt.2.2.2.2.2.2.2.2.2.2.2.1, T.2.2.1, T.2.2.2.2.1 r (by omega), S.1 r (by omega), S.2.2.2.2.1]
      have e : sm (fun r => if th s r then tA t r * (sP s r - sH s) else 0) (r + 1) = sm (fun r => if th s r then tA t r * (sP s r - sH s) else 0) r + (if th s r then tA t r * (sP s r - sH s) else 0) := rfl
      have := ih (r + 1) (by omega)
      rw [e] at this
      by_cases c0 : th s r = true
      · have hq : Int32.ofNat (sP s r - sH s) = Int32.ofNat (sP s r) - Int32.ofNat (sH s) := (pk_sub (hw r (by omega) c0)).symm
        simpa [c0, nI, pv_b, hq] using this
      · simpa [c0, nI, pv_b] using this
  simp only [e45, z45_0, z45_1, z45_2, z45_3, z45_5, z45_6, z45_9, z45_12, z45_13, z45_14, z45_17, z45_20, z45_21, z45_22, z45_25, z45_26, z45_27, z45_28, z45_31, z45_32, z45_33, z45_34, z45_37, z45_38, z45_39, z45_40, z45_41, z45_44, z45_47, z45_48, pv_catN, pv_cat1, pv_cat2, pv_cat3, pv_catL, Option.toList, List.nil_append, List.cons_append, List.append_nil, pv_rfS, pn_i, pn_r, pn_n, pn_o, true_and, and_true, Nat.le_refl, and_self, true_implies, false_implies, not_true_eq_false, not_false_eq_true, pv_b0, pv_b01, pv_bn0, pv_b1, Bool.false_eq_true, Bool.true_eq_false, Bool.not_false, Bool.not_true, pv_bT, pv_bF, eq_self]
  exact loop (tR t) 0 (Nat.zero_add _)
theorem m56 {d : Nat} {P : PvP} {g : PvG} {h : PvH} {o set : Nat} {t : ST} (G : gT g o) (T : cT h o t) (hs : set < 256) (hR : tR t ≤ 8) (hP : P (some (.int (nI (wOf (tA t) set (tR t))))) g h) : pv_run (d + 2) 56 [.ref o, .int (nI set)] g h P := by
  have loop : ∀ n r, r + n = tR t → pv_E (d + 1) 56 P 4 [some (.ref o), some (.int (nI set)), some (.int (nI (wOf (tA t) set r))), some (.int (nI r))] [] 0 0 g h := by
    intro n
    induction n with
    | zero =>
      intro r hr
      have hr : r = tR t := hr
      subst hr
      rw [z56_4]
      simp only [z56_0, z56_1, z56_2, z56_3, z56_5, z56_6, z56_9, z56_12, z56_13, z56_14, z56_17, z56_20, z56_21, z56_22, z56_25, z56_26, z56_27, z56_28, z56_29, z56_32, z56_35, z56_36, pv_catN, pv_cat1, pv_cat2, pv_cat3, pv_catL, Option.toList, List.nil_append, List.cons_append, List.append_nil, pv_rfS, pn_i, pn_r, pn_n, pn_o, true_and, and_true, Nat.le_refl, and_self, true_implies, false_implies, not_true_eq_false, not_false_eq_true, pv_b0, pv_b01, pv_bn0, pv_b1, Bool.false_eq_true, Bool.true_eq_false, Bool.not_false, Bool.not_true, pv_bT, pv_bF, eq_self, G.1, T.2.2.1,  nI_le' (show tR t < 2 ^ 31 by omega) (show tR t < 2 ^ 31 by omega)]
      exact hP
    | succ n ih =>
      intro r hr
      rw [z56_4]
      simp only [z56_0, z56_1, z56_2, z56_3, z56_5, z56_6, z56_9, z56_12, z56_13, z56_14, z56_17, z56_20, z56_21, z56_22, z56_25, z56_26, z56_27, z56_28, z56_29, z56_32, z56_35, z56_36, pv_catN, pv_cat1, pv_cat2, pv_cat3, pv_catL, Option.toList, List.nil_append, List.cons_append, List.append_nil, pv_rfS, pn_i, pn_r, pn_n, pn_o, true_and, and_true, Nat.le_refl, and_self, true_implies, false_implies, not_true_eq_false, not_false_eq_true, pv_b0, pv_b01, pv_bn0, pv_b1, Bool.false_eq_true, Bool.true_eq_false, Bool.not_false, Bool.not_true, pv_bT, pv_bF, eq_self, nI_le' (show tR t < 2 ^ 31 by omega) (show r < 2 ^ 31 by omega), show (tR t ≤ r) = False from eq_false (by omega), vp_nI (show r < 8 by omega) (by decide), nI_clamp (show r < 2 ^ 31 by omega), nI_add, nI_1, G.1, G.2.2.2.2.1, G.2.2.2.2.2.2.2.2.2.2.2.1, T.2.2.1, T.2.2.2.2.1 r (by omega), m98 (show set < 2 ^ 31 by omega) (show r < 32 by omega)]
      have e : wOf (tA t) set (r + 1) = wOf (tA t) set r + (if set.testBit r then tA t r else 0) := rfl
      have := ih (r + 1) (by omega)
      rw [e] at this
      by_cases c0 : set.testBit r = true
      <;> simpa [c0, nI, pv_b, Int32.add_zero] using this
  simp only [e56, z56_0, z56_1, z56_2, z56_3, z56_5, z56_6, z56_9, z56_12, z56_13, z56_14, z56_17, z56_20, z56_21, z56_22, z56_25, z56_26, z56_27, z56_28, z56_29, z56_32, z56_35, z56_36, pv_catN, pv_cat1, pv_cat2, pv_cat3, pv_catL, Option.toList, List.nil_append, List.cons_append, List.append_nil, pv_rfS, pn_i, pn_r, pn_n, pn_o, true_and, and_true, Nat.le_refl, and_self, true_implies, false_implies, not_true_eq_false, not_false_eq_true, pv_b0, pv_b01, pv_bn0, pv_b1, Bool.false_eq_true, Bool.true_eq_false, Bool.not_false, Bool.not_true, pv_bT, pv_bF, eq_self]
  exact loop (tR t) 0 (Nat.zero_add _)
theorem m117 {d : Nat} {P : PvP} {g : PvG} {h : PvH} {t : ST} {s : SS} {ix : Nat → Nat} (G : gM g) (M : cM h t s ix) (hR : tR t ≤ 8) (hP : P (some (.int (nI (mk (th s) (tR t))))) g h) : pv_run (d + 1) 117 [.ref 102] g h P := by
  have loop : ∀ n r, r + n = tR t → pv_E (d + 0) 117 P 4 [some (.ref 102), some (.int (nI (mk (th s) r))), some (.int (nI r))] [] 0 0 g h := by
    intro n
    induction n with
    | zero =>
      intro r hr
      have hr : r = tR t := hr
      subst hr
      rw [z117_4]
      simp only [z117_0, z117_1, z117_2, z117_3, z117_5, z117_6, z117_9, z117_12, z117_13, z117_14, z117_17, z117_18, z117_19, z117_22, z117_23, z117_26, z117_27, z117_28, z117_29, z117_30, z117_31, z117_34, z117_37, z117_38, pv_catN, pv_cat1, pv_cat2, pv_cat3, pv_catL, Option.toList, List.nil_append, List.cons_append, List.append_nil, pv_rfS, pn_i, pn_r, pn_n, pn_o, true_and, and_true, Nat.le_refl, and_self, true_implies, false_implies, not_true_eq_false, not_false_eq_true, pv_b0, pv_b01, pv_bn0, pv_b1, Bool.false_eq_true, Bool.true_eq_false, Bool.not_false, Bool.not_true, pv_bT, pv_bF, eq_self, G.o, M.R,  nI_le' (show tR t < 2 ^ 31 by omega) (show tR t < 2 ^ 31 by omega)]
      exact hP
    | succ n ih =>
      intro r hr
      rw [z117_4]
      simp only [z117_0, z117_1, z117_2, z117_3, z117_5, z117_6, z117_9, z117_12, z117_13, z117_14, z117_17, z117_18, z117_19, z117_22, z117_23, z117_26, z117_27, z117_28, z117_29, z117_30, z117_31, z117_34, z117_37, z117_38, pv_catN, pv_cat1, pv_cat2, pv_cat3, pv_catL, Option.toList, List.nil_append, List.cons_append, List.append_nil, pv_rfS, pn_i, pn_r, pn_n, pn_o, true_and, and_true, Nat.le_refl, and_self, true_implies, false_implies, not_true_eq_false, not_false_eq_true, pv_b0, pv_b01, pv_bn0, pv_b1, Bool.false_eq_true, Bool.true_eq_false, Bool.not_false, Bool.not_true, pv_bT, pv_bF, eq_self, nI_le' (show tR t < 2 ^ 31 by omega) (show r < 2 ^ 31 by omega), show (tR t ≤ r) = False from eq_false (by omega), vp_nI (show r < 8 by omega) (by decide), nI_clamp (show r < 2 ^ 31 by omega), nI_add, nI_1, G.o, G.r12, G.t110, M.R, M.D r (by omega), shlN (show r < 31 by omega), n0, fa_or]
      have e : mk (th s) (r + 1) = mk (th s) r ||| (if th s r then 2 ^ r else 0) := rfl
      have := ih (r + 1) (by omega)
      rw [e] at this
      by_cases c0 : (sD s).testBit r = true
      <;> simpa [c0, nI, pv_b, Int32.add_zero, th] using this
  simp only [e117, z117_0, z117_1, z117_2, z117_3, z117_5, z117_6, z117_9, z117_12, z117_13, z117_14, z117_17, z117_18, z117_19, z117_22, z117_23, z117_26, z117_27, z117_28, z117_29, z117_30, z117_31, z117_34, z117_37, z117_38, pv_catN, pv_cat1, pv_cat2, pv_cat3, pv_catL, Option.toList, List.nil_append, List.cons_append, List.append_nil, pv_rfS, pn_i, pn_r, pn_n, pn_o, true_and, and_true, Nat.le_refl, and_self, true_implies, false_implies, not_true_eq_false, not_false_eq_true, pv_b0, pv_b01, pv_bn0, pv_b1, Bool.false_eq_true, Bool.true_eq_false, Bool.not_false, Bool.not_true, pv_bT, pv_bF, eq_self]
  exact loop (tR t) 0 (Nat.zero_add _)
theorem m119 {d : Nat} {P : PvP} {g : PvG} {h : PvH} {t : ST} {s : SS} {ix : Nat → Nat} (G : gM g) (M : cM h t s ix) (hR : tR t ≤ 8) (hk : ∀ r, r < tR t → sK s r ≤ 3) (hP : P (some (.int (nI (kept s (tR t))))) g h) : pv_run (d + 1) 119 [.ref 102] g h P := by
  have loop : ∀ n r, r + n = tR t → pv_E (d + 0) 119 P 4 [some (.ref 102), some (.int (nI (kept s r))), some (.int (nI r))] [] 0 0 g h := by
    intro n
    induction n with
    | zero =>
      intro r hr
      have hr : r = tR t := hr
      subst hr
      rw [z119_4]
      simp only [z119_0, z119_1, z119_2, z119_3, z119_5, z119_6, z119_9, z119_12, z119_13, z119_14, z119_17, z119_18, z119_19, z119_22, z119_23, z119_26, z119_27, z119_28, z119_29, z119_32, z119_33, z119_36, z119_37, z119_40, z119_41, z119_42, z119_43, z119_44, z119_47, z119_50, z119_51, pv_catN, pv_cat1, pv_cat2, pv_cat3, pv_catL, Option.toList, List.nil_append, List.cons_append, List.append_nil, pv_rfS, pn_i, pn_r, pn_n, pn_o, true_and, and_true, Nat.le_refl, and_self, true_implies, false_implies, not_true_eq_false, not_false_eq_true, pv_b0, pv_b01, pv_bn0, pv_b1, Bool.false_eq_true, Bool.true_eq_false, Bool.not_false, Bool.not_true, pv_bT, pv_bF, eq_self, G.o, M.R,  nI_le' (show tR t < 2 ^ 31 by omega) (show tR t < 2 ^ 31 by omega)]
      exact hP
    | succ n ih =>
      intro r hr
      rw [z119_4]
      simp only [z119_0, z119_1, z119_2, z119_3, z119_5, z119_6, z119_9, z119_12, z119_13, z119_14, z119_17, z119_18, z119_19, z119_22, z119_23, z119_26, z119_27, z119_28, z119_29, z119_32, z119_33, z119_36, z119_37, z119_40, z119_41, z119_42, z119_43, z119_44, z119_47, z119_50, z119_51, pv_catN, pv_cat1, pv_cat2, pv_cat3, pv_catL, Option.toList, List.nil_append, List.cons_append, List.append_nil, pv_rfS, pn_i, pn_r, pn_n, pn_o, true_and, and_true, Nat.le_refl, and_self, true_implies, false_implies, not_true_eq_false, not_false_eq_true, pv_b0, pv_b01, pv_bn0, pv_b1, Bool.false_eq_true, Bool.true_eq_false, Bool.not_false, Bool.not_true, pv_bT, pv_bF, eq_self, nI_le' (show tR t < 2 ^ 31 by omega) (show r < 2 ^ 31 by omega), show (tR t ≤ r) = False from eq_false (by omega), vp_nI (show r < 8 by omega) (by decide), nI_clamp (show r < 2 ^ 31 by omega), nI_add, nI_1, G.o, G.r12, G.t110, M.R, M.D r (by omega), G.r10, G.t108, G.r8, G.t106, M.K r (by omega), M.V r (by omega), n0, show (2 : Int32) = nI 2 from rfl, nI_eq' (show sK s r < 2 ^ 31 by have := hk r (by omega); omega) (show 2 < 2 ^ 31 by decide), nI_add]
      have e : kept s (r + 1) = kept s r + (if th s r && !decide (sK s r = 2) then sV s r else 0) := rfl
      have := ih (r + 1) (by omega)
      rw [e] at this
      by_cases c0 : (sD s).testBit r = true
      <;> by_cases c1 : sK s r = 2
      <;> simpa [c0, c1, nI, pv_b, Int32.add_zero, th] using this
  simp only [e119, z119_0, z119_1, z119_2, z119_3, z119_5, z119_6, z119_9, z119_12, z119_13, z119_14, z119_17, z119_18, z119_19, z119_22, z119_23, z119_26, z119_27, z119_28, z119_29, z119_32, z119_33, z119_36, z119_37, z119_40, z119_41, z119_42, z119_43, z119_44, z119_47, z119_50, z119_51, pv_catN, pv_cat1, pv_cat2, pv_cat3, pv_catL, Option.toList, List.nil_append, List.cons_append, List.append_nil, pv_rfS, pn_i, pn_r, pn_n, pn_o, true_and, and_true, Nat.le_refl, and_self, true_implies, false_implies, not_true_eq_false, not_false_eq_true, pv_b0, pv_b01, pv_bn0, pv_b1, Bool.false_eq_true, Bool.true_eq_false, Bool.not_false, Bool.not_true, pv_bT, pv_bF, eq_self]
  exact loop (tR t) 0 (Nat.zero_add _)
theorem m120 {d : Nat} {P : PvP} {g : PvG} {h : PvH} {t : ST} {s : SS} {ix : Nat → Nat} (G : gM g) (M : cM h t s ix) (hR : tR t ≤ 8) (hw : ∀ r, r < tR t → th s r = true → sH s ≤ sP s r) (hP : P (some (.int (nI (steps t s)))) g h) : pv_run (d + 1) 120 [.ref 102] g h P := by
  have loop : ∀ n r, r + n = tR t → pv_E (d + 0) 120 P 4 [some (.ref 102), some (.int (nI (sm (fun r => if th s r then tA t r * (sP s r - sH s) else 0) r))), some (.int (nI r))] [] 0 0 g h := by
    intro n
    induction n with
    | zero =>
      intro r hr
      have hr : r = tR t := hr
      subst hr
      rw [z120_4]
      simp only [z120_0, z120_1, z120_2, z120_3, z120_5, z120_6, z120_9, z120_12, z120_13, z120_14, z120_17, z120_18, z120_19, z120_22, z120_23, z120_26, z120_27, z120_30, z120_31, z120_32, z120_33, z120_36, z120_37, z120_38, z120_39, z120_42, z120_43, z120_44, z120_45, z120_46, z120_49, z120_52, z120_53, pv_catN, pv_cat1, pv_cat2, pv_cat3, pv_catL, Option.toList, List.nil_append, List.cons_append, List.append_nil, pv_rfS, pn_i, pn_r, pn_n, pn_o, true_and, and_true, Nat.le_refl, and_self, true_implies, false_implies, not_true_eq_false, not_false_eq_true, pv_b0, pv_b01, pv_bn0, pv_b1, Bool.false_eq_true, Bool.true_eq_false, Bool.not_false, Bool.not_true, pv_bT, pv_bF, eq_self, G.o, M.R,  nI_le' (show tR t < 2 ^ 31 by omega) (show tR t < 2 ^ 31 by omega)]
      exact hP
    | succ n ih =>
      intro r hr
      rw [z120_4]
      simp only [z120_0, z120_1, z120_2, z120_3, z120_5, z120_6, z120_9, z120_12, z120_13, z120_14, z120_17, z120_18, z120_19, z120_22, z120_23, z120_26, z120_27, z120_30, z120_31, z120_32, z120_33, z120_36, z120_37, z120_38, z120_39, z120_42, z120_43, z120_44, z120_45, z120_46, z120_49, z120_52, z120_53, pv_catN, pv_cat1, pv_cat2, pv_cat3, pv_catL, Option.toList, List.nil_append, List.cons_append, List.append_nil, pv_rfS, pn_i, pn_r, pn_n, pn_o, true_and, and_true, Nat.le_refl, and_self, true_implies, false_implies, not_true_eq_false, not_false_eq_true, pv_b0, pv_b01, pv_bn0, pv_b1, Bool.false_eq_true, Bool.true_eq_false, Bool.not_false, Bool.not_true, pv_bT, pv_bF, eq_self, nI_le' (show tR t < 2 ^ 31 by omega) (show r < 2 ^ 31 by omega), show (tR t ≤ r) = False from eq_false (by omega), vp_nI (show r < 8 by omega) (by decide), nI_clamp (show r < 2 ^ 31 by omega), nI_add, nI_1, G.o, G.r12, G.t110, M.R, M.D r (by omega), G.r9, G.t107, G.r11, G.t109, M.A r (by omega), M.P r (by omega), M.H]
      have e : sm (fun r => if th s r then tA t r * (sP s r - sH s) else 0) (r + 1) = sm (fun r => if th s r then tA t r * (sP s r - sH s) else 0) r + (if th s r then tA t r * (sP s r - sH s) else 0) := rfl
      have := ih (r + 1) (by omega)
      rw [e] at this
      by_cases c0 : (sD s).testBit r = true
      · simpa [c0, nI, pv_b, th, Int32.add_zero] using this
      · have hq : Int32.ofNat (sP s r - sH s) = Int32.ofNat (sP s r) - Int32.ofNat (sH s) := (pk_sub (hw r (by omega) (by simpa [th] using c0))).symm
        simpa [c0, nI, pv_b, th, hq] using this
  simp only [e120, z120_0, z120_1, z120_2, z120_3, z120_5, z120_6, z120_9, z120_12, z120_13, z120_14, z120_17, z120_18, z120_19, z120_22, z120_23, z120_26, z120_27, z120_30, z120_31, z120_32, z120_33, z120_36, z120_37, z120_38, z120_39, z120_42, z120_43, z120_44, z120_45, z120_46, z120_49, z120_52, z120_53, pv_catN, pv_cat1, pv_cat2, pv_cat3, pv_catL, Option.toList, List.nil_append, List.cons_append, List.append_nil, pv_rfS, pn_i, pn_r, pn_n, pn_o, true_and, and_true, Nat.le_refl, and_self, true_implies, false_implies, not_true_eq_false, not_false_eq_true, pv_b0, pv_b01, pv_bn0, pv_b1, Bool.false_eq_true, Bool.true_eq_false, Bool.not_false, Bool.not_true, pv_bT, pv_bF, eq_self]
  exact loop (tR t) 0 (Nat.zero_add _)
theorem m122 {d : Nat} {P : PvP} {g : PvG} {h : PvH} {t : ST} {s : SS} {ix : Nat → Nat} (G : gM g) (M : cM h t s ix) (hR : tR t ≤ 8) {f : Nat} (hf : f < 2 ^ 31) (hp : ∀ r, r < tR t → sP s r < 2 ^ 31) (hP : P (some (.int (nI (onF s f (tR t))))) g h) : pv_run (d + 1) 122 [.ref 102, .int (nI f)] g h P := by
  have loop : ∀ n r, r + n = tR t → pv_E (d + 0) 122 P 4 [some (.ref 102), some (.int (nI f)), some (.int (nI (onF s f r))), some (.int (nI r))] [] 0 0 g h := by
    intro n
    induction n with
    | zero =>
      intro r hr
      have hr : r = tR t := hr
      subst hr
      rw [z122_4]
      simp only [z122_0, z122_1, z122_2, z122_3, z122_5, z122_6, z122_9, z122_12, z122_13, z122_14, z122_17, z122_18, z122_19, z122_22, z122_23, z122_26, z122_27, z122_28, z122_29, z122_32, z122_33, z122_34, z122_35, z122_38, z122_39, z122_40, z122_41, z122_44, z122_47, z122_48, pv_catN, pv_cat1, pv_cat2, pv_cat3, pv_catL, Option.toList, List.nil_append, List.cons_append, List.append_nil, pv_rfS, pn_i, pn_r, pn_n, pn_o, true_and, and_true, Nat.le_refl, and_self, true_implies, false_implies, not_true_eq_false, not_false_eq_true, pv_b0, pv_b01, pv_bn0, pv_b1, Bool.false_eq_true, Bool.true_eq_false, Bool.not_false, Bool.not_true, pv_bT, pv_bF, eq_self, G.o, M.R,  nI_le' (show tR t < 2 ^ 31 by omega) (show tR t < 2 ^ 31 by omega)]
      exact hP
    | succ n ih =>
      intro r hr
      rw [z122_4]
      simp only [z122_0, z122_1, z122_2, z122_3, z122_5, z122_6, z122_9, z122_12, z122_13, z122_14, z122_17, z122_18, z122_19, z122_22, z122_23, z122_26, z122_27, z122_28, z122_29, z122_32, z122_33, z122_34, z122_35, z122_38, z122_39, z122_40, z122_41, z122_44, z122_47, z122_48, pv_catN, pv_cat1, pv_cat2, pv_cat3, pv_catL, Option.toList, List.nil_append, List.cons_append, List.append_nil, pv_rfS, pn_i, pn_r, pn_n, pn_o, true_and, and_true, Nat.le_refl, and_self, true_implies, false_implies, not_true_eq_false, not_false_eq_true, pv_b0, pv_b01, pv_bn0, pv_b1, Bool.false_eq_true, Bool.true_eq_false, Bool.not_false, Bool.not_true, pv_bT, pv_bF, eq_self, nI_le' (show tR t < 2 ^ 31 by omega) (show r < 2 ^ 31 by omega), show (tR t ≤ r) = False from eq_false (by omega), vp_nI (show r < 8 by omega) (by decide), nI_clamp (show r < 2 ^ 31 by omega), nI_add, nI_1, G.o, G.r12, G.t110, M.R, M.D r (by omega), G.r11, G.t109, M.P r (by omega), nI_eq' (hp r (by omega)) hf, shlN (show r < 31 by omega), n0, fa_or]
      have e : onF s f (r + 1) = onF s f r ||| (if th s r && decide (sP s r = f) then 2 ^ r else 0) := rfl
      have := ih (r + 1) (by omega)
      rw [e] at this
      by_cases c0 : (sD s).testBit r = true
      <;> by_cases c1 : sP s r = f
      <;> simpa [c0, c1, nI, pv_b, Int32.add_zero, th] using this
  simp only [e122, z122_0, z122_1, z122_2, z122_3, z122_5, z122_6, z122_9, z122_12, z122_13, z122_14, z122_17, z122_18, z122_19, z122_22, z122_23, z122_26, z122_27, z122_28, z122_29, z122_32, z122_33, z122_34, z122_35, z122_38, z122_39, z122_40, z122_41, z122_44, z122_47, z122_48, pv_catN, pv_cat1, pv_cat2, pv_cat3, pv_catL, Option.toList, List.nil_append, List.cons_append, List.append_nil, pv_rfS, pn_i, pn_r, pn_n, pn_o, true_and, and_true, Nat.le_refl, and_self, true_implies, false_implies, not_true_eq_false, not_false_eq_true, pv_b0, pv_b01, pv_bn0, pv_b1, Bool.false_eq_true, Bool.true_eq_false, Bool.not_false, Bool.not_true, pv_bT, pv_bF, eq_self]
  exact loop (tR t) 0 (Nat.zero_add _)
theorem m123 {d : Nat} {P : PvP} {g : PvG} {h : PvH} {t : ST} {s : SS} {ix : Nat → Nat} (G : gM g) (M : cM h t s ix) (hR : tR t ≤ 8) {set : Nat} (hs : set < 256) (hP : P (some (.int (nI (wOf (tW t) set (tR t))))) g h) : pv_run (d + 2) 123 [.ref 102, .int (nI set)] g h P := by
  have loop : ∀ n r, r + n = tR t → pv_E (d + 1) 123 P 4 [some (.ref 102), some (.int (nI set)), some (.int (nI (wOf (tW t) set r))), some (.int (nI r))] [] 0 0 g h := by
    intro n
    induction n with
    | zero =>
      intro r hr
      have hr : r = tR t := hr
      subst hr
      rw [z123_4]
      simp only [z123_0, z123_1, z123_2, z123_3, z123_5, z123_6, z123_9, z123_12, z123_13, z123_14, z123_15, z123_18, z123_21, z123_22, z123_25, z123_26, z123_27, z123_30, z123_31, z123_32, z123_33, z123_36, z123_39, z123_40, pv_catN, pv_cat1, pv_cat2, pv_cat3, pv_catL, Option.toList, List.nil_append, List.cons_append, List.append_nil, pv_rfS, pn_i, pn_r, pn_n, pn_o, true_and, and_true, Nat.le_refl, and_self, true_implies, false_implies, not_true_eq_false, not_false_eq_true, pv_b0, pv_b01, pv_bn0, pv_b1, Bool.false_eq_true, Bool.true_eq_false, Bool.not_false, Bool.not_true, pv_bT, pv_bF, eq_self, G.o, M.R,  nI_le' (show tR t < 2 ^ 31 by omega) (show tR t < 2 ^ 31 by omega)]
      exact hP
    | succ n ih =>
      intro r hr
      rw [z123_4]
      simp only [z123_0, z123_1, z123_2, z123_3, z123_5, z123_6, z123_9, z123_12, z123_13, z123_14, z123_15, z123_18, z123_21, z123_22, z123_25, z123_26, z123_27, z123_30, z123_31, z123_32, z123_33, z123_36, z123_39, z123_40, pv_catN, pv_cat1, pv_cat2, pv_cat3, pv_catL, Option.toList, List.nil_append, List.cons_append, List.append_nil, pv_rfS, pn_i, pn_r, pn_n, pn_o, true_and, and_true, Nat.le_refl, and_self, true_implies, false_implies, not_true_eq_false, not_false_eq_true, pv_b0, pv_b01, pv_bn0, pv_b1, Bool.false_eq_true, Bool.true_eq_false, Bool.not_false, Bool.not_true, pv_bT, pv_bF, eq_self, nI_le' (show tR t < 2 ^ 31 by omega) (show r < 2 ^ 31 by omega), show (tR t ≤ r) = False from eq_false (by omega), vp_nI (show r < 8 by omega) (by decide), nI_clamp (show r < 2 ^ 31 by omega), nI_add, nI_1, G.o, M.R, G.r7, G.t105, M.W r (by omega), m101 (show set < 2 ^ 31 by omega) (show r < 32 by omega), n0, nI_add]
      have e : wOf (tW t) set (r + 1) = wOf (tW t) set r + (if set.testBit r then tW t r else 0) := rfl
      have := ih (r + 1) (by omega)
      rw [e] at this
      by_cases c0 : set.testBit r = true
      <;> simpa [c0, nI, pv_b, Int32.add_zero] using this
  simp only [e123, z123_0, z123_1, z123_2, z123_3, z123_5, z123_6, z123_9, z123_12, z123_13, z123_14, z123_15, z123_18, z123_21, z123_22, z123_25, z123_26, z123_27, z123_30, z123_31, z123_32, z123_33, z123_36, z123_39, z123_40, pv_catN, pv_cat1, pv_cat2, pv_cat3, pv_catL, Option.toList, List.nil_append, List.cons_append, List.append_nil, pv_rfS, pn_i, pn_r, pn_n, pn_o, true_and, and_true, Nat.le_refl, and_self, true_implies, false_implies, not_true_eq_false, not_false_eq_true, pv_b0, pv_b01, pv_bn0, pv_b1, Bool.false_eq_true, Bool.true_eq_false, Bool.not_false, Bool.not_true, pv_bT, pv_bF, eq_self]
  exact loop (tR t) 0 (Nat.zero_add _)
