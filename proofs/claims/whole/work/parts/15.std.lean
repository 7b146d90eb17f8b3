/-! STANDING and TOWER of the class: what lies where; the methods that only read -/
def gS (g : PvG) (o : Nat) : Prop := (pv_tg g o).1 = 6 ∧ pv_rf g o 0 = some (o + 1) ∧ pv_rf g o 1 = some (o + 2) ∧ pv_rf g o 2 = some (o + 3) ∧ pv_tg g (o + 1) = (100, 8) ∧ pv_tg g (o + 2) = (100, 8) ∧ pv_tg g (o + 3) = (100, 8)
def cS (h : PvH) (o R : Nat) (s : SS) : Prop := (∀ r, r < R → h (o + 1) r = nI (sP s r)) ∧ (∀ r, r < R → h (o + 2) r = nI (sV s r)) ∧ (∀ r, r < R → h (o + 3) r = nI (sK s r)) ∧ h o 3 = nI (sD s) ∧ h o 4 = nI (sH s) ∧ h o 5 = nI (sE s) ∧ h o 6 = nI (sL s)
def gT (g : PvG) (o : Nat) : Prop := (pv_tg g o).1 = 7 ∧ pv_rf g o 1 = some (o + 1) ∧ pv_rf g o 3 = some (o + 2) ∧ pv_rf g o 4 = some (o + 3) ∧ pv_rf g o 5 = some (o + 4) ∧ pv_rf g o 6 = some (o + 5) ∧ pv_rf g o 7 = some (o + 6) ∧ pv_rf g o 8 = some (o + 7) ∧ pv_tg g (o + 1) = (100, 5) ∧ pv_tg g (o + 2) = (100, 8) ∧ pv_tg g (o + 3) = (100, 8) ∧ pv_tg g (o + 4) = (100, 8) ∧ pv_tg g (o + 5) = (100, 8) ∧ pv_tg g (o + 6) = (100, 8) ∧ pv_tg g (o + 7) = (100, 8)
def cT (h : PvH) (o : Nat) (t : ST) : Prop := h o 0 = nI (tF t) ∧ (∀ f, f < tF t → h (o + 1) f = nI (tB t f)) ∧ h o 2 = nI (tR t) ∧ (∀ r, r < tR t → h (o + 2) r = nI (tW t r)) ∧ (∀ r, r < tR t → h (o + 4) r = nI (tA t r)) ∧ (∀ r, r < tR t → h (o + 7) r = nI (tC t r))
theorem m42 {d : Nat} {P : PvP} {g : PvG} {h : PvH} {o r R : Nat} {s : SS} (G : gS g o) (S : cS h o R s) (hD : sD s < 256) (hr : r < 32) : pv_run (d + 2) 42 [.ref o, .int (nI r)] g h P = P (some (.int (pv_b (th s r)))) g h := by
  simp only [e42, z42_0, z42_1, z42_4, z42_5, z42_8, z42_11, z42_12, z42_15, z42_16, pv_catN, pv_cat1, pv_cat2, pv_cat3, pv_catL, Option.toList, List.nil_append, List.cons_append, List.append_nil, pv_rfS, pn_i, pn_r, pn_n, pn_o, true_and, and_true, Nat.le_refl, and_self, true_implies, false_implies, not_true_eq_false, not_false_eq_true, pv_b0, pv_b01, pv_bn0, pv_b1, Bool.false_eq_true, Bool.true_eq_false, Bool.not_false, Bool.not_true, pv_bT, pv_bF, eq_self, G.1, S.2.2.2.1, m98 (show sD s < 2 ^ 31 by omega) hr]
  unfold th
  cases (sD s).testBit r <;> simp [pv_b]
theorem m53 {d : Nat} {P : PvP} {g : PvG} {h : PvH} {o set : Nat} {t : ST} (G : gT g o) (T : cT h o t) (hs : set < 256) (hR : tR t ≤ 8) (hP : P (some (.int (nI (wOf (tW t) set (tR t))))) g h) : pv_run (d + 2) 53 [.ref o, .int (nI set)] g h P := by
  have loop : ∀ n r, r + n = tR t → pv_E (d + 1) 53 P 4 [some (.ref o), some (.int (nI set)), some (.int (nI (wOf (tW t) set r))), some (.int (nI r))] [] 0 0 g h := by
    intro n
    induction n with
    | zero =>
      intro r hr
      have hr : r = tR t := hr
      subst hr
      rw [z53_4]
      simp only [z53_0, z53_1, z53_2, z53_3, z53_5, z53_6, z53_9, z53_12, z53_13, z53_14, z53_17, z53_20, z53_21, z53_22, z53_25, z53_26, z53_27, z53_28, z53_29, z53_32, z53_35, z53_36, pv_catN, pv_cat1, pv_cat2, pv_cat3, pv_catL, Option.toList, List.nil_append, List.cons_append, List.append_nil, pv_rfS, pn_i, pn_r, pn_n, pn_o, true_and, and_true, Nat.le_refl, and_self, true_implies, false_implies, not_true_eq_false, not_false_eq_true, pv_b0, pv_b01, pv_bn0, pv_b1, Bool.false_eq_true, Bool.true_eq_false, Bool.not_false, Bool.not_true, pv_bT, pv_bF, eq_self, G.1, T.2.2.1, nI_le' (show tR t < 2 ^ 31 by omega) (show tR t < 2 ^ 31 by omega)]
      exact hP
    | succ n ih =>
      intro r hr
      rw [z53_4]
      simp only [z53_0, z53_1, z53_2, z53_3, z53_5, z53_6, z53_9, z53_12, z53_13, z53_14, z53_17, z53_20, z53_21, z53_22, z53_25, z53_26, z53_27, z53_28, z53_29, z53_32, z53_35, z53_36, pv_catN, pv_cat1, pv_cat2, pv_cat3, pv_catL, Option.toList, List.nil_append, List.cons_append, List.append_nil, pv_rfS, pn_i, pn_r, pn_n, pn_o, true_and, and_true, Nat.le_refl, and_self, true_implies, false_implies, not_true_eq_false, not_false_eq_true, pv_b0, pv_b01, pv_bn0, pv_b1, Bool.false_eq_true, Bool.true_eq_false, Bool.not_false, Bool.not_true, pv_bT, pv_bF, eq_self, G.1, T.2.2.1, nI_le' (show tR t < 2 ^ 31 by omega) (show r < 2 ^ 31 by omega), show (tR t ≤ r) = False from eq_false (by omega), m98 (show set < 2 ^ 31 by omega) (show r < 32 by omega), G.2.2.1, G.2.2.2.2.2.2.2.2.2.1, vp_nI (show r < 8 by omega) (by decide), nI_clamp (show r < 2 ^ 31 by omega), T.2.2.2.1 r (by omega), nI_add, nI_1]
      have e : wOf (tW t) set (r + 1) = wOf (tW t) set r + if set.testBit r then tW t r else 0 := rfl
      have := ih (r + 1) (by omega)
      rw [e] at this
      refine br (fun c => ?_) (fun c => ?_)
      · simpa [c] using this
      · simpa [c] using this
  simp only [e53, z53_0, z53_1, z53_2, z53_3, z53_5, z53_6, z53_9, z53_12, z53_13, z53_14, z53_17, z53_20, z53_21, z53_22, z53_25, z53_26, z53_27, z53_28, z53_29, z53_32, z53_35, z53_36, pv_catN, pv_cat1, pv_cat2, pv_cat3, pv_catL, Option.toList, List.nil_append, List.cons_append, List.append_nil, pv_rfS, pn_i, pn_r, pn_n, pn_o, true_and, and_true, Nat.le_refl, and_self, true_implies, false_implies, not_true_eq_false, not_false_eq_true, pv_b0, pv_b01, pv_bn0, pv_b1, Bool.false_eq_true, Bool.true_eq_false, Bool.not_false, Bool.not_true, pv_bT, pv_bF, eq_self]
  exact loop (tR t) 0 (Nat.zero_add _)
