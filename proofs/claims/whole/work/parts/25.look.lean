/-! the model's lies; mend; lookUp -/
theorem m155 {d : Nat} {P : PvP} {g : PvG} {h : PvH} {x : SX} (G : gM g) (M : cD h x) (O : okX x) (hP : P (some (.int (nI (nLie (xS x) (xI x) (tR (xT x)))))) g h) : pv_run (d + 1) 155 [.ref 102] g h P := by
  have hR := O.R
  have loop : ∀ n r, r + n = tR (xT x) → pv_E d 155 P 4 [some (.ref 102), some (.int (nI (nLie (xS x) (xI x) r))), some (.int (nI r))] [] 0 0 g h := by
    intro n
    induction n with
    | zero =>
      intro r hr
      have hr : r = tR (xT x) := hr
      subst hr
      rw [z155_4]
      simp only [z155_0, z155_1, z155_2, z155_3, z155_5, z155_6, z155_9, z155_12, z155_13, z155_14, z155_17, z155_18, z155_19, z155_22, z155_23, z155_26, z155_27, z155_28, z155_29, z155_32, z155_33, z155_34, z155_37, z155_38, z155_41, z155_42, z155_43, z155_44, z155_47, z155_50, z155_51, pv_catN, pv_cat1, pv_cat2, pv_cat3, pv_catL, Option.toList, List.nil_append, List.cons_append, List.append_nil, pv_rfS, pn_i, pn_r, pn_n, pn_o, true_and, and_true, Nat.le_refl, and_self, true_implies, false_implies, not_true_eq_false, not_false_eq_true, pv_b0, pv_b01, pv_bn0, pv_b1, Bool.false_eq_true, Bool.true_eq_false, Bool.not_false, Bool.not_true, pv_bT, pv_bF, eq_self, G.o, M.M.R, nI_le' (show tR (xT x) < 2 ^ 31 by omega) (show tR (xT x) < 2 ^ 31 by omega)]
      exact hP
    | succ n ih =>
      intro r hr
      have hp := O.p31 r (by omega)
      have hx := O.I31 r (by omega)
      rw [z155_4]
      simp only [z155_0, z155_1, z155_2, z155_3, z155_5, z155_6, z155_9, z155_12, z155_13, z155_14, z155_17, z155_18, z155_19, z155_22, z155_23, z155_26, z155_27, z155_28, z155_29, z155_32, z155_33, z155_34, z155_37, z155_38, z155_41, z155_42, z155_43, z155_44, z155_47, z155_50, z155_51, pv_catN, pv_cat1, pv_cat2, pv_cat3, pv_catL, Option.toList, List.nil_append, List.cons_append, List.append_nil, pv_rfS, pn_i, pn_r, pn_n, pn_o, true_and, and_true, Nat.le_refl, and_self, true_implies, false_implies, not_true_eq_false, not_false_eq_true, pv_b0, pv_b01, pv_bn0, pv_b1, Bool.false_eq_true, Bool.true_eq_false, Bool.not_false, Bool.not_true, pv_bT, pv_bF, eq_self, G.o, M.M.R, nI_le' (show tR (xT x) < 2 ^ 31 by omega) (show r < 2 ^ 31 by omega), show (tR (xT x) ≤ r) = False from eq_false (by omega), G.r12, G.t110, G.r13, G.t111, G.r11, G.t109, vp_nI (show r < 8 by omega) (show 8 < 2 ^ 31 by decide), nI_clamp (show r < 2 ^ 31 by omega), M.M.D r (by omega), M.M.X r (by omega), M.M.P r (by omega), nI_eq' hx hp, nI_1]
      have e : nLie (xS x) (xI x) (r + 1) = nLie (xS x) (xI x) r + (if lie (xS x) (xI x) r then 1 else 0) := rfl
      have := ih (r + 1) (by omega)
      rw [e] at this
      unfold lie th at this
      cases hb : (sD (xS x)).testBit r <;> by_cases c : xI x r = sP (xS x) r <;> simpa [hb, c, nI] using this
  simp only [e155, z155_0, z155_1, z155_2, z155_3, pv_catN, pv_cat1, pv_cat2, pv_cat3, pv_catL, Option.toList, List.nil_append, List.cons_append, List.append_nil, pv_rfS, pn_i, pn_r, pn_n, pn_o, true_and, and_true, Nat.le_refl, and_self, true_implies, false_implies, not_true_eq_false, not_false_eq_true, pv_b0, pv_b01, pv_bn0, pv_b1, Bool.false_eq_true, Bool.true_eq_false, Bool.not_false, Bool.not_true, pv_bT, pv_bF, eq_self]
  exact loop (tR (xT x)) 0 (Nat.zero_add _)
theorem pk_iDiv {a b : Nat} (ha : a < 2 ^ 31) (h0 : 0 < b) (hb : b < 2 ^ 31) : nI a / nI b = nI (a / b) := pk_div ha h0 hb
theorem oM157 {x : SX} (O : okX x) (u : Bool) : OpM 3 157 [.int (pv_b u)] x (.int (nI (liesA x u))) x := by
  intro d P g h ⟨G, M0⟩ hP
  have M := M0.t0
  have hP := hP _ ⟨G, M⟩ (FM.rf.st (by omega))
  have hR := O.R
  have hl := nLie_le (xS x) (xI x) (tR (xT x))
  have ht : pc (mk (th (xS x)) (tR (xT x))) ≤ 8 := nTh_le O
  unfold liesA nTh at hP
  simp only [e157, z157_0, z157_1, z157_2, z157_5, z157_6, pv_catN, pv_cat1, pv_cat2, pv_cat3, pv_catL, Option.toList, List.nil_append, List.cons_append, List.append_nil, pv_rfS, pn_i, pn_r, pn_n, pn_o, true_and, and_true, Nat.le_refl, and_self, true_implies, false_implies, not_true_eq_false, not_false_eq_true, pv_b0, pv_b01, pv_bn0, pv_b1, Bool.false_eq_true, Bool.true_eq_false, Bool.not_false, Bool.not_true, pv_bT, pv_bF, eq_self, G.o]
  refine m117 G M.M hR ?_
  simp only [z157_9, pv_catN, pv_cat1, pv_cat2, pv_cat3, pv_catL, Option.toList, List.nil_append, List.cons_append, List.append_nil, pv_rfS, pn_i, pn_r, pn_n, pn_o, true_and, and_true, Nat.le_refl, and_self, true_implies, false_implies, not_true_eq_false, not_false_eq_true, pv_b0, pv_b01, pv_bn0, pv_b1, Bool.false_eq_true, Bool.true_eq_false, Bool.not_false, Bool.not_true, pv_bT, pv_bF, eq_self]
  refine m118 (p8 (mk_lt _ _) hR) ?_
  have e0 : (nI (pc (mk (th (xS x)) (tR (xT x)))) = 0) = (pc (mk (th (xS x)) (tR (xT x))) = 0) := nI_eq' (by omega) (by decide)
  simp only [z157_12, z157_13, z157_14, z157_17, z157_18, z157_21, z157_22, z157_25, z157_26, z157_27, z157_28, pv_catN, pv_cat1, pv_cat2, pv_cat3, pv_catL, Option.toList, List.nil_append, List.cons_append, List.append_nil, pv_rfS, pn_i, pn_r, pn_n, pn_o, true_and, and_true, Nat.le_refl, and_self, true_implies, false_implies, not_true_eq_false, not_false_eq_true, pv_b0, pv_b01, pv_bn0, pv_b1, Bool.false_eq_true, Bool.true_eq_false, Bool.not_false, Bool.not_true, pv_bT, pv_bF, eq_self, e0, G.o]
  refine ⟨fun c => ?_, fun c => ?_⟩
  · refine m155 G M O ?_
    simp only [z157_31, z157_32, z157_33, pv_catN, pv_cat1, pv_cat2, pv_cat3, pv_catL, Option.toList, List.nil_append, List.cons_append, List.append_nil, pv_rfS, pn_i, pn_r, pn_n, pn_o, true_and, and_true, Nat.le_refl, and_self, true_implies, false_implies, not_true_eq_false, not_false_eq_true, pv_b0, pv_b01, pv_bn0, pv_b1, Bool.false_eq_true, Bool.true_eq_false, Bool.not_false, Bool.not_true, pv_bT, pv_bF, eq_self, l31 (show nLie (xS x) (xI x) (tR (xT x)) < 2 ^ 31 by omega), l31 (show pc (mk (th (xS x)) (tR (xT x))) < 2 ^ 31 by omega)]
    rw [z157_34 (by simp [pv_cat]) (by decide)]
    refine m156 (by omega) (by omega) ?_
    generalize hN : nLie (xS x) (xI x) (tR (xT x)) = N at *
    generalize hT : pc (mk (th (xS x)) (tR (xT x))) = T at *
    have hg : Nat.gcd N T ≤ T := Nat.gcd_le_right N (by omega)
    have hg0 : Nat.gcd N T ≠ 0 := fun q => c (Nat.eq_zero_of_gcd_eq_zero_right q)
    have e1 : (nI (Nat.gcd N T) = 0) = (Nat.gcd N T = 0) := nI_eq' (by omega) (by decide)
    simp only [z157_37, z157_38, z157_39, z157_40, z157_43, z157_44, z157_52, z157_53, z157_54, z157_55, pv_catN, pv_cat1, pv_cat2, pv_cat3, pv_catL, Option.toList, List.nil_append, List.cons_append, List.append_nil, pv_rfS, pn_i, pn_r, pn_n, pn_o, true_and, and_true, Nat.le_refl, and_self, true_implies, false_implies, not_true_eq_false, not_false_eq_true, pv_b0, pv_b01, pv_bn0, pv_b1, Bool.false_eq_true, Bool.true_eq_false, Bool.not_false, Bool.not_true, pv_bT, pv_bF, eq_self, lN_i, e1, G.o]
    refine ⟨fun q => ⟨hg0, ?_⟩, fun q => ?_⟩
    · rw [pk_iDiv (by omega) (by omega) (by omega)]
      subst q
      unfold frac at hP
      by_cases z : N = 0
      · rw [if_pos (Or.inl z)] at hP
        subst z
        rw [Nat.gcd_zero_left, Nat.div_self (by omega)]
        exact hP
      · rw [if_neg (by omega)] at hP
        exact hP
    · refine m155 G M O ?_
      have q : u = true := by simpa using q
      subst q
      rw [hN]
      simp only [z157_47, z157_48, z157_49, z157_55, pv_catN, pv_cat1, pv_cat2, pv_cat3, pv_catL, Option.toList, List.nil_append, List.cons_append, List.append_nil, pv_rfS, pn_i, pn_r, pn_n, pn_o, true_and, and_true, Nat.le_refl, and_self, true_implies, false_implies, not_true_eq_false, not_false_eq_true, pv_b0, pv_b01, pv_bn0, pv_b1, Bool.false_eq_true, Bool.true_eq_false, Bool.not_false, Bool.not_true, pv_bT, pv_bF, eq_self, e1]
      refine ⟨hg0, ?_⟩
      rw [pk_iDiv (by omega) (by omega) (by omega)]
      unfold frac at hP
      by_cases z : N = 0
      · rw [if_pos (Or.inl z)] at hP
        subst z
        rw [Nat.zero_div]
        exact hP
      · rw [if_neg (by omega)] at hP
        exact hP
  · have c : pc (mk (th (xS x)) (tR (xT x))) = 0 := Classical.byContradiction c
    unfold frac at hP
    rw [if_pos (Or.inr c)] at hP
    cases u
    · exact ⟨fun _ => hP, fun q => absurd rfl q⟩
    · exact ⟨fun q => (by cases q), fun _ => hP⟩
