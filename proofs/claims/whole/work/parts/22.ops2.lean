/-! OPERATIONS: floor, record, cites, effort, index -/
theorem okX.p31 {x : SX} (O : okX x) : ∀ r, r < tR (xT x) → sP (xS x) r < 2 ^ 31 := fun r hr => by
  have := (O.S.1 r hr).1
  have := O.F
  omega
theorem okX.on {x : SX} (O : okX x) (f : Nat) : onF (xS x) f (tR (xT x)) < 256 := p8 (mk_lt _ _) O.R
def floorX (x : SX) (f k : Nat) : Nat := match k with
  | 0 => tB (xT x) f
  | 1 => wOf (tW (xT x)) (onF (xS x) f (tR (xT x))) (tR (xT x))
  | _ => onF (xS x) f (tR (xT x))
def floorA (x : SX) (a b : Int32) : Int32 := if inr a (tF (xT x)) then (if inr b 3 then nI (floorX x a.toNatClampNeg b.toNatClampNeg) else -2) else -1
theorem oC64 {x : SX} (O : okX x) (a b : Int32) : OpC 5 64 [.int a, .int b] x (.int (floorA x a b)) x := by
  intro d P g h ⟨rt, tt, q, G, C⟩ hP
  have hP := hP g h ⟨rt, tt, q, G, C⟩ FG.rf FC.rf
  have hF := O.F
  have hR := O.R
  have hD := O.D
  unfold floorA at hP
  cases hI : inr a (tF (xT x)) with
  | false =>
    simp only [e64, z64_0, z64_1, z64_2, z64_5, z64_8, z64_9, pv_catN, pv_cat1, pv_cat2, pv_cat3, pv_catL, Option.toList, List.nil_append, List.cons_append, List.append_nil, pv_rfS, pn_i, pn_r, pn_n, pn_o, true_and, and_true, Nat.le_refl, and_self, true_implies, false_implies, not_true_eq_false, not_false_eq_true, pv_b0, pv_b01, pv_bn0, pv_b1, Bool.false_eq_true, Bool.true_eq_false, Bool.not_false, Bool.not_true, pv_bT, pv_bF, eq_self, G.o0, m85 G C O, hI]
    simpa [hI] using hP
  | true =>
    obtain ⟨f, hf, rfl⟩ := inr_t hI
    simp only [e64, z64_0, z64_1, z64_2, z64_5, z64_10, pv_catN, pv_cat1, pv_cat2, pv_cat3, pv_catL, Option.toList, List.nil_append, List.cons_append, List.append_nil, pv_rfS, pn_i, pn_r, pn_n, pn_o, true_and, and_true, Nat.le_refl, and_self, true_implies, false_implies, not_true_eq_false, not_false_eq_true, pv_b0, pv_b01, pv_bn0, pv_b1, Bool.false_eq_true, Bool.true_eq_false, Bool.not_false, Bool.not_true, pv_bT, pv_bF, eq_self, G.o0, m85 G C O, hI]
    rw [if_pos hI] at hP
    refine ts64_11 (fun c => ?_) (fun k hk c => ?_)
    · have e : inr b 3 = false := by
        unfold inr
        exact decide_eq_false (by omega)
      simp only [z64_0, z64_1, z64_2, z64_5, z64_8, z64_9, z64_10, z64_36, z64_37, z64_40, z64_43, z64_44, z64_45, z64_46, z64_47, z64_50, z64_51, z64_54, z64_55, z64_56, z64_59, z64_62, z64_65, z64_68, z64_69, z64_70, z64_73, z64_74, z64_75, z64_78, z64_81, z64_84, z64_85, z64_87, pv_catN, pv_cat1, pv_cat2, pv_cat3, pv_catL, Option.toList, List.nil_append, List.cons_append, List.append_nil, pv_rfS, pn_i, pn_r, pn_n, pn_o, true_and, and_true, Nat.le_refl, and_self, true_implies, false_implies, not_true_eq_false, not_false_eq_true, pv_b0, pv_b01, pv_bn0, pv_b1, Bool.false_eq_true, Bool.true_eq_false, Bool.not_false, Bool.not_true, pv_bT, pv_bF, eq_self]
      simpa [e] using hP
    · have e : inr b 3 = true := by
        unfold inr
        exact decide_eq_true (by omega)
      obtain ⟨j, hj, rfl⟩ := inr_t e
      rw [nI_toInt (by omega)] at c
      have hjk : j = k := by omega
      subst hjk
      rw [if_pos e, nI_clamp (by omega), nI_clamp (by omega)] at hP
      rcases (by omega : j = 0 ∨ j = 1 ∨ j = 2) with rfl | rfl | rfl
      · show pv_E _ 64 P 36 _ _ _ _ _ _
        simp only [z64_0, z64_1, z64_2, z64_5, z64_8, z64_9, z64_10, z64_36, z64_37, z64_40, z64_43, z64_44, z64_45, z64_46, z64_47, z64_50, z64_51, z64_54, z64_55, z64_56, z64_59, z64_62, z64_65, z64_68, z64_69, z64_70, z64_73, z64_74, z64_75, z64_78, z64_81, z64_84, z64_85, z64_87, pv_catN, pv_cat1, pv_cat2, pv_cat3, pv_catL, Option.toList, List.nil_append, List.cons_append, List.append_nil, pv_rfS, pn_i, pn_r, pn_n, pn_o, true_and, and_true, Nat.le_refl, and_self, true_implies, false_implies, not_true_eq_false, not_false_eq_true, pv_b0, pv_b01, pv_bn0, pv_b1, Bool.false_eq_true, Bool.true_eq_false, Bool.not_false, Bool.not_true, pv_bT, pv_bF, eq_self, G.o0, G.r0_3, G.Tr.1, G.Tr.2.1, G.Tr.2.2.2.2.2.2.2.2.1, vp_nI (show f < 5 by omega) (by decide), nI_clamp (show f < 2 ^ 31 by omega), C.T.2.1 f hf]; exact hP
      · show pv_E _ 64 P 46 _ _ _ _ _ _
        simp only [z64_0, z64_1, z64_2, z64_5, z64_8, z64_9, z64_10, z64_36, z64_37, z64_40, z64_43, z64_44, z64_45, z64_46, z64_47, z64_50, z64_51, z64_54, z64_55, z64_56, z64_59, z64_62, z64_65, z64_68, z64_69, z64_70, z64_73, z64_74, z64_75, z64_78, z64_81, z64_84, z64_85, z64_87, pv_catN, pv_cat1, pv_cat2, pv_cat3, pv_catL, Option.toList, List.nil_append, List.cons_append, List.append_nil, pv_rfS, pn_i, pn_r, pn_n, pn_o, true_and, and_true, Nat.le_refl, and_self, true_implies, false_implies, not_true_eq_false, not_false_eq_true, pv_b0, pv_b01, pv_bn0, pv_b1, Bool.false_eq_true, Bool.true_eq_false, Bool.not_false, Bool.not_true, pv_bT, pv_bF, eq_self, G.o0, G.r0_3, G.r0_4, G.Tr.1, G.S20.1, C.T.2.2.1]
        refine m43 G.S20 C.S hD hR (by omega) O.p31 ?_
        simp only [z64_0, z64_1, z64_2, z64_5, z64_8, z64_9, z64_10, z64_36, z64_37, z64_40, z64_43, z64_44, z64_45, z64_46, z64_47, z64_50, z64_51, z64_54, z64_55, z64_56, z64_59, z64_62, z64_65, z64_68, z64_69, z64_70, z64_73, z64_74, z64_75, z64_78, z64_81, z64_84, z64_85, z64_87, pv_catN, pv_cat1, pv_cat2, pv_cat3, pv_catL, Option.toList, List.nil_append, List.cons_append, List.append_nil, pv_rfS, pn_i, pn_r, pn_n, pn_o, true_and, and_true, Nat.le_refl, and_self, true_implies, false_implies, not_true_eq_false, not_false_eq_true, pv_b0, pv_b01, pv_bn0, pv_b1, Bool.false_eq_true, Bool.true_eq_false, Bool.not_false, Bool.not_true, pv_bT, pv_bF, eq_self, G.Tr.1]
        refine m53 G.Tr C.T (O.on f) hR ?_
        simp only [z64_0, z64_1, z64_2, z64_5, z64_8, z64_9, z64_10, z64_36, z64_37, z64_40, z64_43, z64_44, z64_45, z64_46, z64_47, z64_50, z64_51, z64_54, z64_55, z64_56, z64_59, z64_62, z64_65, z64_68, z64_69, z64_70, z64_73, z64_74, z64_75, z64_78, z64_81, z64_84, z64_85, z64_87, pv_catN, pv_cat1, pv_cat2, pv_cat3, pv_catL, Option.toList, List.nil_append, List.cons_append, List.append_nil, pv_rfS, pn_i, pn_r, pn_n, pn_o, true_and, and_true, Nat.le_refl, and_self, true_implies, false_implies, not_true_eq_false, not_false_eq_true, pv_b0, pv_b01, pv_bn0, pv_b1, Bool.false_eq_true, Bool.true_eq_false, Bool.not_false, Bool.not_true, pv_bT, pv_bF, eq_self]; exact hP
      · show pv_E _ 64 P 69 _ _ _ _ _ _
        simp only [z64_0, z64_1, z64_2, z64_5, z64_8, z64_9, z64_10, z64_36, z64_37, z64_40, z64_43, z64_44, z64_45, z64_46, z64_47, z64_50, z64_51, z64_54, z64_55, z64_56, z64_59, z64_62, z64_65, z64_68, z64_69, z64_70, z64_73, z64_74, z64_75, z64_78, z64_81, z64_84, z64_85, z64_87, pv_catN, pv_cat1, pv_cat2, pv_cat3, pv_catL, Option.toList, List.nil_append, List.cons_append, List.append_nil, pv_rfS, pn_i, pn_r, pn_n, pn_o, true_and, and_true, Nat.le_refl, and_self, true_implies, false_implies, not_true_eq_false, not_false_eq_true, pv_b0, pv_b01, pv_bn0, pv_b1, Bool.false_eq_true, Bool.true_eq_false, Bool.not_false, Bool.not_true, pv_bT, pv_bF, eq_self, G.o0, G.r0_3, G.r0_4, G.Tr.1, G.S20.1, C.T.2.2.1]
        refine m43 G.S20 C.S hD hR (by omega) O.p31 ?_
        simp only [z64_0, z64_1, z64_2, z64_5, z64_8, z64_9, z64_10, z64_36, z64_37, z64_40, z64_43, z64_44, z64_45, z64_46, z64_47, z64_50, z64_51, z64_54, z64_55, z64_56, z64_59, z64_62, z64_65, z64_68, z64_69, z64_70, z64_73, z64_74, z64_75, z64_78, z64_81, z64_84, z64_85, z64_87, pv_catN, pv_cat1, pv_cat2, pv_cat3, pv_catL, Option.toList, List.nil_append, List.cons_append, List.append_nil, pv_rfS, pn_i, pn_r, pn_n, pn_o, true_and, and_true, Nat.le_refl, and_self, true_implies, false_implies, not_true_eq_false, not_false_eq_true, pv_b0, pv_b01, pv_bn0, pv_b1, Bool.false_eq_true, Bool.true_eq_false, Bool.not_false, Bool.not_true, pv_bT, pv_bF, eq_self]; exact hP
theorem nI_lit {b : Int32} {k : Nat} (hk : k < 2 ^ 31) : (b = nI k) = (b.toInt = (k : Int)) := propext (by rw [← Int32.toInt_inj, nI_toInt hk])
theorem oM124 {x : SX} (O : okX x) (a b : Int32) : OpM 4 124 [.int a, .int b] x (.int (floorA x a b)) x := by
  intro d P g h ⟨G, M0⟩ hP
  have M := M0.t0
  have hP := hP _ ⟨G, M⟩ (FM.rf.st (by omega))
  have hF := O.F
  have hR := O.R
  have hD := O.D
  unfold floorA at hP
  cases hI : inr a (tF (xT x)) with
  | false =>
    simp only [e124, z124_0, z124_1, z124_2, z124_5, z124_6, z124_7, z124_10, z124_13, z124_14, z124_15, z124_16, z124_19, z124_20, z124_23, z124_24, z124_25, z124_28, z124_29, z124_30, z124_33, z124_34, z124_35, z124_42, z124_45, z124_46, z124_47, z124_50, z124_51, z124_55, z124_58, z124_60, pv_catN, pv_cat1, pv_cat2, pv_cat3, pv_catL, Option.toList, List.nil_append, List.cons_append, List.append_nil, pv_rfS, pn_i, pn_r, pn_n, pn_o, true_and, and_true, Nat.le_refl, and_self, true_implies, false_implies, not_true_eq_false, not_false_eq_true, pv_b0, pv_b01, pv_bn0, pv_b1, Bool.false_eq_true, Bool.true_eq_false, Bool.not_false, Bool.not_true, pv_bT, pv_bF, eq_self, G.o, m103 G M O, hI]
    simpa [hI] using hP
  | true =>
    obtain ⟨f, hf, rfl⟩ := inr_t hI
    rw [if_pos hI] at hP
    simp only [e124, z124_0, z124_1, z124_2, z124_5, z124_6, z124_7, z124_10, z124_13, z124_14, z124_15, z124_16, z124_19, z124_20, z124_23, z124_24, z124_25, z124_28, z124_29, z124_30, z124_33, z124_34, z124_35, z124_39, z124_42, z124_45, z124_46, z124_47, z124_50, z124_51, z124_55, z124_58, z124_60, pv_catN, pv_cat1, pv_cat2, pv_cat3, pv_catL, Option.toList, List.nil_append, List.cons_append, List.append_nil, pv_rfS, pn_i, pn_r, pn_n, pn_o, true_and, and_true, Nat.le_refl, and_self, true_implies, false_implies, not_true_eq_false, not_false_eq_true, pv_b0, pv_b01, pv_bn0, pv_b1, Bool.false_eq_true, Bool.true_eq_false, Bool.not_false, Bool.not_true, pv_bT, pv_bF, eq_self, G.o, m103 G M O, hI, G.r5, G.t104, vp_nI (show f < 5 by omega) (by decide), nI_clamp (show f < 2 ^ 31 by omega), M.M.B f hf]
    rw [nI_clamp (show f < 2 ^ 31 by omega)] at hP
    refine ⟨fun c0 => ⟨fun c1 => ⟨fun c2 => ?_, fun c2 => ?_⟩, fun c1 => ?_⟩, fun c0 => ?_⟩
    · have e : inr b 3 = false := by
        cases e : inr b 3 with
        | false => rfl
        | true =>
          obtain ⟨j, hj, rfl⟩ := inr_t e
          rcases (by omega : j = 0 ∨ j = 1 ∨ j = 2) with rfl | rfl | rfl
          · exact absurd rfl c0
          · exact absurd rfl c1
          · exact absurd rfl c2
      simpa [e] using hP
    · have c2 : b = 2 := Classical.byContradiction c2
      subst c2
      rw [if_pos (by decide)] at hP
      rw [z124_52 (by simp [pv_cat]) (by decide)]
      refine ⟨G.o, m122 G M.M hR (by omega) O.p31 ?_⟩
      simp only [z124_0, z124_1, z124_2, z124_5, z124_6, z124_7, z124_10, z124_13, z124_14, z124_15, z124_16, z124_19, z124_20, z124_23, z124_24, z124_25, z124_28, z124_29, z124_30, z124_33, z124_34, z124_35, z124_36, z124_39, z124_42, z124_45, z124_46, z124_47, z124_50, z124_51, z124_52, z124_55, z124_58, z124_60, pv_catN, pv_cat1, pv_cat2, pv_cat3, pv_catL, Option.toList, List.nil_append, List.cons_append, List.append_nil, pv_rfS, pn_i, pn_r, pn_n, pn_o, true_and, and_true, Nat.le_refl, and_self, true_implies, false_implies, not_true_eq_false, not_false_eq_true, pv_b0, pv_b01, pv_bn0, pv_b1, Bool.false_eq_true, Bool.true_eq_false, Bool.not_false, Bool.not_true, pv_bT, pv_bF, eq_self]; exact hP
    · have c1 : b = 1 := Classical.byContradiction c1
      subst c1
      rw [if_pos (by decide)] at hP
      rw [z124_36 (by simp [pv_cat, Value.category]) (by decide)]
      refine ⟨G.o, m122 G M.M hR (by omega) O.p31 ?_⟩
      simp only [z124_39, pv_catN, pv_cat1, pv_cat2, pv_cat3, pv_catL, Option.toList, List.nil_append, List.cons_append, List.append_nil, pv_rfS, pn_i, pn_r, pn_n, pn_o, true_and, and_true, Nat.le_refl, and_self, true_implies, false_implies, not_true_eq_false, not_false_eq_true, pv_b0, pv_b01, pv_bn0, pv_b1, Bool.false_eq_true, Bool.true_eq_false, Bool.not_false, Bool.not_true, pv_bT, pv_bF, eq_self, G.o]
      refine m123 G M.M hR (O.on f) ?_
      simp only [z124_0, z124_1, z124_2, z124_5, z124_6, z124_7, z124_10, z124_13, z124_14, z124_15, z124_16, z124_19, z124_20, z124_23, z124_24, z124_25, z124_28, z124_29, z124_30, z124_33, z124_34, z124_35, z124_36, z124_39, z124_42, z124_45, z124_46, z124_47, z124_50, z124_51, z124_52, z124_55, z124_58, z124_60, pv_catN, pv_cat1, pv_cat2, pv_cat3, pv_catL, Option.toList, List.nil_append, List.cons_append, List.append_nil, pv_rfS, pn_i, pn_r, pn_n, pn_o, true_and, and_true, Nat.le_refl, and_self, true_implies, false_implies, not_true_eq_false, not_false_eq_true, pv_b0, pv_b01, pv_bn0, pv_b1, Bool.false_eq_true, Bool.true_eq_false, Bool.not_false, Bool.not_true, pv_bT, pv_bF, eq_self]; exact hP
    · have c0 : b = 0 := Classical.byContradiction c0
      subst c0
      rw [if_pos (by decide)] at hP
      exact hP
def recX (x : SX) (r k : Nat) : Nat := match k with
  | 0 => tW (xT x) r
  | 1 => sV (xS x) r
  | 2 => tA (xT x) r
  | 3 => sK (xS x) r
  | 4 => sP (xS x) r
  | 5 => ((sD (xS x)).testBit r).toNat
  | _ => xI x r
def recA (x : SX) (a b : Int32) : Int32 := if inr a (tR (xT x)) then (if inr b 7 then nI (recX x a.toNatClampNeg b.toNatClampNeg) else -2) else -1
theorem oC65 {x : SX} (O : okX x) (a b : Int32) : OpC 4 65 [.int a, .int b] x (.int (recA x a b)) x := by
  intro d P g h ⟨rt, tt, q, G, C⟩ hP
  have hP := hP g h ⟨rt, tt, q, G, C⟩ FG.rf FC.rf
  have hR := O.R
  have hD := O.D
  unfold recA at hP
  cases hI : inr a (tR (xT x)) with
  | false =>
    simp only [e65, z65_0, z65_1, z65_2, z65_5, z65_8, z65_9, pv_catN, pv_cat1, pv_cat2, pv_cat3, pv_catL, Option.toList, List.nil_append, List.cons_append, List.append_nil, pv_rfS, pn_i, pn_r, pn_n, pn_o, true_and, and_true, Nat.le_refl, and_self, true_implies, false_implies, not_true_eq_false, not_false_eq_true, pv_b0, pv_b01, pv_bn0, pv_b1, Bool.false_eq_true, Bool.true_eq_false, Bool.not_false, Bool.not_true, pv_bT, pv_bF, eq_self, G.o0, m86 G C O, hI]
    simpa [hI] using hP
  | true =>
    obtain ⟨r, hr, rfl⟩ := inr_t hI
    simp only [e65, z65_0, z65_1, z65_2, z65_5, z65_10, pv_catN, pv_cat1, pv_cat2, pv_cat3, pv_catL, Option.toList, List.nil_append, List.cons_append, List.append_nil, pv_rfS, pn_i, pn_r, pn_n, pn_o, true_and, and_true, Nat.le_refl, and_self, true_implies, false_implies, not_true_eq_false, not_false_eq_true, pv_b0, pv_b01, pv_bn0, pv_b1, Bool.false_eq_true, Bool.true_eq_false, Bool.not_false, Bool.not_true, pv_bT, pv_bF, eq_self, G.o0, m86 G C O, hI]
    rw [if_pos hI] at hP
    refine ts65_11 (fun c => ?_) (fun k hk c => ?_)
    · have e : inr b 7 = false := by
        unfold inr
        exact decide_eq_false (by omega)
      simp only [z65_0, z65_1, z65_2, z65_5, z65_8, z65_9, z65_10, z65_52, z65_53, z65_56, z65_59, z65_60, z65_61, z65_62, z65_63, z65_66, z65_69, z65_70, z65_71, z65_72, z65_73, z65_76, z65_79, z65_80, z65_81, z65_82, z65_83, z65_86, z65_89, z65_90, z65_91, z65_92, z65_93, z65_96, z65_99, z65_100, z65_101, z65_102, z65_103, z65_106, z65_107, z65_110, z65_113, z65_114, z65_117, z65_118, z65_119, z65_120, z65_123, z65_124, z65_125, z65_126, z65_128, pv_catN, pv_cat1, pv_cat2, pv_cat3, pv_catL, Option.toList, List.nil_append, List.cons_append, List.append_nil, pv_rfS, pn_i, pn_r, pn_n, pn_o, true_and, and_true, Nat.le_refl, and_self, true_implies, false_implies, not_true_eq_false, not_false_eq_true, pv_b0, pv_b01, pv_bn0, pv_b1, Bool.false_eq_true, Bool.true_eq_false, Bool.not_false, Bool.not_true, pv_bT, pv_bF, eq_self]
      simpa [e] using hP
    · have e : inr b 7 = true := by
        unfold inr
        exact decide_eq_true (by omega)
      obtain ⟨j, hj, rfl⟩ := inr_t e
      rw [nI_toInt (by omega)] at c
      have hjk : j = k := by omega
      subst hjk
      have hv := vp_nI (show r < 8 by omega) (show 8 < 2 ^ 31 by decide)
      have hc := nI_clamp (show r < 2 ^ 31 by omega)
      rw [if_pos e, hc, nI_clamp (show j < 2 ^ 31 by omega)] at hP
      rcases (by omega : j = 0 ∨ j = 1 ∨ j = 2 ∨ j = 3 ∨ j = 4 ∨ j = 5 ∨ j = 6) with rfl | rfl | rfl | rfl | rfl | rfl | rfl
      · show pv_E _ 65 P 52 _ _ _ _ _ _
        simp only [z65_0, z65_1, z65_2, z65_5, z65_8, z65_9, z65_10, z65_52, z65_53, z65_56, z65_59, z65_60, z65_61, z65_62, z65_63, z65_66, z65_69, z65_70, z65_71, z65_72, z65_73, z65_76, z65_79, z65_80, z65_81, z65_82, z65_83, z65_86, z65_89, z65_90, z65_91, z65_92, z65_93, z65_96, z65_99, z65_100, z65_101, z65_102, z65_103, z65_106, z65_107, z65_110, z65_113, z65_114, z65_117, z65_118, z65_119, z65_120, z65_123, z65_124, z65_125, z65_126, z65_128, pv_catN, pv_cat1, pv_cat2, pv_cat3, pv_catL, Option.toList, List.nil_append, List.cons_append, List.append_nil, pv_rfS, pn_i, pn_r, pn_n, pn_o, true_and, and_true, Nat.le_refl, and_self, true_implies, false_implies, not_true_eq_false, not_false_eq_true, pv_b0, pv_b01, pv_bn0, pv_b1, Bool.false_eq_true, Bool.true_eq_false, Bool.not_false, Bool.not_true, pv_bT, pv_bF, eq_self, G.o0, G.r0_3, G.Tr.1, G.Tr.2.2.1, G.Tr.2.2.2.2.2.2.2.2.2.1, hv, hc, C.T.2.2.2.1 r hr]; exact hP
      · show pv_E _ 65 P 62 _ _ _ _ _ _
        simp only [z65_0, z65_1, z65_2, z65_5, z65_8, z65_9, z65_10, z65_52, z65_53, z65_56, z65_59, z65_60, z65_61, z65_62, z65_63, z65_66, z65_69, z65_70, z65_71, z65_72, z65_73, z65_76, z65_79, z65_80, z65_81, z65_82, z65_83, z65_86, z65_89, z65_90, z65_91, z65_92, z65_93, z65_96, z65_99, z65_100, z65_101, z65_102, z65_103, z65_106, z65_107, z65_110, z65_113, z65_114, z65_117, z65_118, z65_119, z65_120, z65_123, z65_124, z65_125, z65_126, z65_128, pv_catN, pv_cat1, pv_cat2, pv_cat3, pv_catL, Option.toList, List.nil_append, List.cons_append, List.append_nil, pv_rfS, pn_i, pn_r, pn_n, pn_o, true_and, and_true, Nat.le_refl, and_self, true_implies, false_implies, not_true_eq_false, not_false_eq_true, pv_b0, pv_b01, pv_bn0, pv_b1, Bool.false_eq_true, Bool.true_eq_false, Bool.not_false, Bool.not_true, pv_bT, pv_bF, eq_self, G.o0, G.r0_4, G.S20.1, G.S20.2.2.1, G.S20.2.2.2.2.2.1, hv, hc, C.S.2.1 r hr]; exact hP
      · show pv_E _ 65 P 72 _ _ _ _ _ _
        simp only [z65_0, z65_1, z65_2, z65_5, z65_8, z65_9, z65_10, z65_52, z65_53, z65_56, z65_59, z65_60, z65_61, z65_62, z65_63, z65_66, z65_69, z65_70, z65_71, z65_72, z65_73, z65_76, z65_79, z65_80, z65_81, z65_82, z65_83, z65_86, z65_89, z65_90, z65_91, z65_92, z65_93, z65_96, z65_99, z65_100, z65_101, z65_102, z65_103, z65_106, z65_107, z65_110, z65_113, z65_114, z65_117, z65_118, z65_119, z65_120, z65_123, z65_124, z65_125, z65_126, z65_128, pv_catN, pv_cat1, pv_cat2, pv_cat3, pv_catL, Option.toList, List.nil_append, List.cons_append, List.append_nil, pv_rfS, pn_i, pn_r, pn_n, pn_o, true_and, and_true, Nat.le_refl, and_self, true_implies, false_implies, not_true_eq_false, not_false_eq_true, pv_b0, pv_b01, pv_bn0, pv_b1, Bool.false_eq_true, Bool.true_eq_false, Bool.not_false, Bool.not_true, pv_bT, pv_bF, eq_self, G.o0, G.r0_3, G.Tr.1, G.Tr.2.2.2.2.1, G.Tr.2.2.2.2.2.2.2.2.2.2.2.1, hv, hc, C.T.2.2.2.2.1 r hr]; exact hP
      · show pv_E _ 65 P 82 _ _ _ _ _ _
        simp only [z65_0, z65_1, z65_2, z65_5, z65_8, z65_9, z65_10, z65_52, z65_53, z65_56, z65_59, z65_60, z65_61, z65_62, z65_63, z65_66, z65_69, z65_70, z65_71, z65_72, z65_73, z65_76, z65_79, z65_80, z65_81, z65_82, z65_83, z65_86, z65_89, z65_90, z65_91, z65_92, z65_93, z65_96, z65_99, z65_100, z65_101, z65_102, z65_103, z65_106, z65_107, z65_110, z65_113, z65_114, z65_117, z65_118, z65_119, z65_120, z65_123, z65_124, z65_125, z65_126, z65_128, pv_catN, pv_cat1, pv_cat2, pv_cat3, pv_catL, Option.toList, List.nil_append, List.cons_append, List.append_nil, pv_rfS, pn_i, pn_r, pn_n, pn_o, true_and, and_true, Nat.le_refl, and_self, true_implies, false_implies, not_true_eq_false, not_false_eq_true, pv_b0, pv_b01, pv_bn0, pv_b1, Bool.false_eq_true, Bool.true_eq_false, Bool.not_false, Bool.not_true, pv_bT, pv_bF, eq_self, G.o0, G.r0_4, G.S20.1, G.S20.2.2.2.1, G.S20.2.2.2.2.2.2, hv, hc, C.S.2.2.1 r hr]; exact hP
      · show pv_E _ 65 P 92 _ _ _ _ _ _
        simp only [z65_0, z65_1, z65_2, z65_5, z65_8, z65_9, z65_10, z65_52, z65_53, z65_56, z65_59, z65_60, z65_61, z65_62, z65_63, z65_66, z65_69, z65_70, z65_71, z65_72, z65_73, z65_76, z65_79, z65_80, z65_81, z65_82, z65_83, z65_86, z65_89, z65_90, z65_91, z65_92, z65_93, z65_96, z65_99, z65_100, z65_101, z65_102, z65_103, z65_106, z65_107, z65_110, z65_113, z65_114, z65_117, z65_118, z65_119, z65_120, z65_123, z65_124, z65_125, z65_126, z65_128, pv_catN, pv_cat1, pv_cat2, pv_cat3, pv_catL, Option.toList, List.nil_append, List.cons_append, List.append_nil, pv_rfS, pn_i, pn_r, pn_n, pn_o, true_and, and_true, Nat.le_refl, and_self, true_implies, false_implies, not_true_eq_false, not_false_eq_true, pv_b0, pv_b01, pv_bn0, pv_b1, Bool.false_eq_true, Bool.true_eq_false, Bool.not_false, Bool.not_true, pv_bT, pv_bF, eq_self, G.o0, G.r0_4, G.S20.1, G.S20.2.1, G.S20.2.2.2.2.1, hv, hc, C.S.1 r hr]; exact hP
      · show pv_E _ 65 P 102 _ _ _ _ _ _
        simp only [z65_0, z65_1, z65_2, z65_5, z65_8, z65_9, z65_10, z65_52, z65_53, z65_56, z65_59, z65_60, z65_61, z65_62, z65_63, z65_66, z65_69, z65_70, z65_71, z65_72, z65_73, z65_76, z65_79, z65_80, z65_81, z65_82, z65_83, z65_86, z65_89, z65_90, z65_91, z65_92, z65_93, z65_96, z65_99, z65_100, z65_101, z65_102, z65_103, z65_106, z65_107, z65_110, z65_113, z65_114, z65_117, z65_118, z65_119, z65_120, z65_123, z65_124, z65_125, z65_126, z65_128, pv_catN, pv_cat1, pv_cat2, pv_cat3, pv_catL, Option.toList, List.nil_append, List.cons_append, List.append_nil, pv_rfS, pn_i, pn_r, pn_n, pn_o, true_and, and_true, Nat.le_refl, and_self, true_implies, false_implies, not_true_eq_false, not_false_eq_true, pv_b0, pv_b01, pv_bn0, pv_b1, Bool.false_eq_true, Bool.true_eq_false, Bool.not_false, Bool.not_true, pv_bT, pv_bF, eq_self, G.o0, G.r0_4, G.S20.1, m42 G.S20 C.S hD (show r < 32 by omega)]
        unfold recX at hP
        unfold th
        cases hb : (sD (xS x)).testBit r <;> simpa [hb, nI] using hP
      · show pv_E _ 65 P 119 _ _ _ _ _ _
        simp only [z65_0, z65_1, z65_2, z65_5, z65_8, z65_9, z65_10, z65_52, z65_53, z65_56, z65_59, z65_60, z65_61, z65_62, z65_63, z65_66, z65_69, z65_70, z65_71, z65_72, z65_73, z65_76, z65_79, z65_80, z65_81, z65_82, z65_83, z65_86, z65_89, z65_90, z65_91, z65_92, z65_93, z65_96, z65_99, z65_100, z65_101, z65_102, z65_103, z65_106, z65_107, z65_110, z65_113, z65_114, z65_117, z65_118, z65_119, z65_120, z65_123, z65_124, z65_125, z65_126, z65_128, pv_catN, pv_cat1, pv_cat2, pv_cat3, pv_catL, Option.toList, List.nil_append, List.cons_append, List.append_nil, pv_rfS, pn_i, pn_r, pn_n, pn_o, true_and, and_true, Nat.le_refl, and_self, true_implies, false_implies, not_true_eq_false, not_false_eq_true, pv_b0, pv_b01, pv_bn0, pv_b1, Bool.false_eq_true, Bool.true_eq_false, Bool.not_false, Bool.not_true, pv_bT, pv_bF, eq_self, G.o0, G.r0_5, G.t24, hv, hc, C.X r hr]; exact hP
theorem oM125 {x : SX} (O : okX x) (a b : Int32) : OpM 4 125 [.int a, .int b] x (.int (recA x a b)) x := by
  intro d P g h ⟨G, M0⟩ hP
  have M := M0.t0
  have hP := hP _ ⟨G, M⟩ (FM.rf.st (by omega))
  have hR := O.R
  unfold recA at hP
  cases hI : inr a (tR (xT x)) with
  | false =>
    simp only [e125, z125_0, z125_1, z125_2, z125_5, z125_6, z125_7, z125_10, z125_13, z125_14, pv_catN, pv_cat1, pv_cat2, pv_cat3, pv_catL, Option.toList, List.nil_append, List.cons_append, List.append_nil, pv_rfS, pn_i, pn_r, pn_n, pn_o, true_and, and_true, Nat.le_refl, and_self, true_implies, false_implies, not_true_eq_false, not_false_eq_true, pv_b0, pv_b01, pv_bn0, pv_b1, Bool.false_eq_true, Bool.true_eq_false, Bool.not_false, Bool.not_true, pv_bT, pv_bF, eq_self, G.o, m102 G M O, hI]
    simpa [hI] using hP
  | true =>
    obtain ⟨r, hr, rfl⟩ := inr_t hI
    simp only [e125, z125_0, z125_1, z125_2, z125_5, z125_6, z125_7, z125_10, z125_15, pv_catN, pv_cat1, pv_cat2, pv_cat3, pv_catL, Option.toList, List.nil_append, List.cons_append, List.append_nil, pv_rfS, pn_i, pn_r, pn_n, pn_o, true_and, and_true, Nat.le_refl, and_self, true_implies, false_implies, not_true_eq_false, not_false_eq_true, pv_b0, pv_b01, pv_bn0, pv_b1, Bool.false_eq_true, Bool.true_eq_false, Bool.not_false, Bool.not_true, pv_bT, pv_bF, eq_self, G.o, m102 G M O, hI]
    rw [if_pos hI] at hP
    refine ts125_16 (fun c => ?_) (fun k hk c => ?_)
    · have e : inr b 7 = false := by
        unfold inr
        exact decide_eq_false (by omega)
      simp only [z125_0, z125_1, z125_2, z125_5, z125_6, z125_7, z125_10, z125_13, z125_14, z125_15, z125_60, z125_61, z125_64, z125_65, z125_66, z125_67, z125_68, z125_71, z125_72, z125_73, z125_74, z125_75, z125_78, z125_79, z125_80, z125_81, z125_82, z125_85, z125_86, z125_87, z125_88, z125_89, z125_92, z125_93, z125_94, z125_95, z125_96, z125_99, z125_100, z125_101, z125_104, z125_105, z125_108, z125_109, z125_110, z125_111, z125_114, z125_115, z125_116, z125_117, z125_119, pv_catN, pv_cat1, pv_cat2, pv_cat3, pv_catL, Option.toList, List.nil_append, List.cons_append, List.append_nil, pv_rfS, pn_i, pn_r, pn_n, pn_o, true_and, and_true, Nat.le_refl, and_self, true_implies, false_implies, not_true_eq_false, not_false_eq_true, pv_b0, pv_b01, pv_bn0, pv_b1, Bool.false_eq_true, Bool.true_eq_false, Bool.not_false, Bool.not_true, pv_bT, pv_bF, eq_self]
      simpa [e] using hP
    · have e : inr b 7 = true := by
        unfold inr
        exact decide_eq_true (by omega)
      obtain ⟨j, hj, rfl⟩ := inr_t e
      rw [nI_toInt (by omega)] at c
      have hjk : j = k := by omega
      subst hjk
      have hv := vp_nI (show r < 8 by omega) (show 8 < 2 ^ 31 by decide)
      have hc := nI_clamp (show r < 2 ^ 31 by omega)
      rw [if_pos e, hc, nI_clamp (show j < 2 ^ 31 by omega)] at hP
      rcases (by omega : j = 0 ∨ j = 1 ∨ j = 2 ∨ j = 3 ∨ j = 4 ∨ j = 5 ∨ j = 6) with rfl | rfl | rfl | rfl | rfl | rfl | rfl
      · show pv_E _ 125 P 60 _ _ _ _ _ _
        simp only [z125_0, z125_1, z125_2, z125_5, z125_6, z125_7, z125_10, z125_13, z125_14, z125_15, z125_60, z125_61, z125_64, z125_65, z125_66, z125_67, z125_68, z125_71, z125_72, z125_73, z125_74, z125_75, z125_78, z125_79, z125_80, z125_81, z125_82, z125_85, z125_86, z125_87, z125_88, z125_89, z125_92, z125_93, z125_94, z125_95, z125_96, z125_99, z125_100, z125_101, z125_104, z125_105, z125_108, z125_109, z125_110, z125_111, z125_114, z125_115, z125_116, z125_117, z125_119, pv_catN, pv_cat1, pv_cat2, pv_cat3, pv_catL, Option.toList, List.nil_append, List.cons_append, List.append_nil, pv_rfS, pn_i, pn_r, pn_n, pn_o, true_and, and_true, Nat.le_refl, and_self, true_implies, false_implies, not_true_eq_false, not_false_eq_true, pv_b0, pv_b01, pv_bn0, pv_b1, Bool.false_eq_true, Bool.true_eq_false, Bool.not_false, Bool.not_true, pv_bT, pv_bF, eq_self, G.o, G.r7, G.t105, hv, hc, M.M.W r hr]; exact hP
      · show pv_E _ 125 P 67 _ _ _ _ _ _
        simp only [z125_0, z125_1, z125_2, z125_5, z125_6, z125_7, z125_10, z125_13, z125_14, z125_15, z125_60, z125_61, z125_64, z125_65, z125_66, z125_67, z125_68, z125_71, z125_72, z125_73, z125_74, z125_75, z125_78, z125_79, z125_80, z125_81, z125_82, z125_85, z125_86, z125_87, z125_88, z125_89, z125_92, z125_93, z125_94, z125_95, z125_96, z125_99, z125_100, z125_101, z125_104, z125_105, z125_108, z125_109, z125_110, z125_111, z125_114, z125_115, z125_116, z125_117, z125_119, pv_catN, pv_cat1, pv_cat2, pv_cat3, pv_catL, Option.toList, List.nil_append, List.cons_append, List.append_nil, pv_rfS, pn_i, pn_r, pn_n, pn_o, true_and, and_true, Nat.le_refl, and_self, true_implies, false_implies, not_true_eq_false, not_false_eq_true, pv_b0, pv_b01, pv_bn0, pv_b1, Bool.false_eq_true, Bool.true_eq_false, Bool.not_false, Bool.not_true, pv_bT, pv_bF, eq_self, G.o, G.r8, G.t106, hv, hc, M.M.V r hr]; exact hP
      · show pv_E _ 125 P 74 _ _ _ _ _ _
        simp only [z125_0, z125_1, z125_2, z125_5, z125_6, z125_7, z125_10, z125_13, z125_14, z125_15, z125_60, z125_61, z125_64, z125_65, z125_66, z125_67, z125_68, z125_71, z125_72, z125_73, z125_74, z125_75, z125_78, z125_79, z125_80, z125_81, z125_82, z125_85, z125_86, z125_87, z125_88, z125_89, z125_92, z125_93, z125_94, z125_95, z125_96, z125_99, z125_100, z125_101, z125_104, z125_105, z125_108, z125_109, z125_110, z125_111, z125_114, z125_115, z125_116, z125_117, z125_119, pv_catN, pv_cat1, pv_cat2, pv_cat3, pv_catL, Option.toList, List.nil_append, List.cons_append, List.append_nil, pv_rfS, pn_i, pn_r, pn_n, pn_o, true_and, and_true, Nat.le_refl, and_self, true_implies, false_implies, not_true_eq_false, not_false_eq_true, pv_b0, pv_b01, pv_bn0, pv_b1, Bool.false_eq_true, Bool.true_eq_false, Bool.not_false, Bool.not_true, pv_bT, pv_bF, eq_self, G.o, G.r9, G.t107, hv, hc, M.M.A r hr]; exact hP
      · show pv_E _ 125 P 81 _ _ _ _ _ _
        simp only [z125_0, z125_1, z125_2, z125_5, z125_6, z125_7, z125_10, z125_13, z125_14, z125_15, z125_60, z125_61, z125_64, z125_65, z125_66, z125_67, z125_68, z125_71, z125_72, z125_73, z125_74, z125_75, z125_78, z125_79, z125_80, z125_81, z125_82, z125_85, z125_86, z125_87, z125_88, z125_89, z125_92, z125_93, z125_94, z125_95, z125_96, z125_99, z125_100, z125_101, z125_104, z125_105, z125_108, z125_109, z125_110, z125_111, z125_114, z125_115, z125_116, z125_117, z125_119, pv_catN, pv_cat1, pv_cat2, pv_cat3, pv_catL, Option.toList, List.nil_append, List.cons_append, List.append_nil, pv_rfS, pn_i, pn_r, pn_n, pn_o, true_and, and_true, Nat.le_refl, and_self, true_implies, false_implies, not_true_eq_false, not_false_eq_true, pv_b0, pv_b01, pv_bn0, pv_b1, Bool.false_eq_true, Bool.true_eq_false, Bool.not_false, Bool.not_true, pv_bT, pv_bF, eq_self, G.o, G.r10, G.t108, hv, hc, M.M.K r hr]; exact hP
      · show pv_E _ 125 P 88 _ _ _ _ _ _
        simp only [z125_0, z125_1, z125_2, z125_5, z125_6, z125_7, z125_10, z125_13, z125_14, z125_15, z125_60, z125_61, z125_64, z125_65, z125_66, z125_67, z125_68, z125_71, z125_72, z125_73, z125_74, z125_75, z125_78, z125_79, z125_80, z125_81, z125_82, z125_85, z125_86, z125_87, z125_88, z125_89, z125_92, z125_93, z125_94, z125_95, z125_96, z125_99, z125_100, z125_101, z125_104, z125_105, z125_108, z125_109, z125_110, z125_111, z125_114, z125_115, z125_116, z125_117, z125_119, pv_catN, pv_cat1, pv_cat2, pv_cat3, pv_catL, Option.toList, List.nil_append, List.cons_append, List.append_nil, pv_rfS, pn_i, pn_r, pn_n, pn_o, true_and, and_true, Nat.le_refl, and_self, true_implies, false_implies, not_true_eq_false, not_false_eq_true, pv_b0, pv_b01, pv_bn0, pv_b1, Bool.false_eq_true, Bool.true_eq_false, Bool.not_false, Bool.not_true, pv_bT, pv_bF, eq_self, G.o, G.r11, G.t109, hv, hc, M.M.P r hr]; exact hP
      · show pv_E _ 125 P 95 _ _ _ _ _ _
        simp only [z125_0, z125_1, z125_2, z125_5, z125_6, z125_7, z125_10, z125_13, z125_14, z125_15, z125_60, z125_61, z125_64, z125_65, z125_66, z125_67, z125_68, z125_71, z125_72, z125_73, z125_74, z125_75, z125_78, z125_79, z125_80, z125_81, z125_82, z125_85, z125_86, z125_87, z125_88, z125_89, z125_92, z125_93, z125_94, z125_95, z125_96, z125_99, z125_100, z125_101, z125_104, z125_105, z125_108, z125_109, z125_110, z125_111, z125_114, z125_115, z125_116, z125_117, z125_119, pv_catN, pv_cat1, pv_cat2, pv_cat3, pv_catL, Option.toList, List.nil_append, List.cons_append, List.append_nil, pv_rfS, pn_i, pn_r, pn_n, pn_o, true_and, and_true, Nat.le_refl, and_self, true_implies, false_implies, not_true_eq_false, not_false_eq_true, pv_b0, pv_b01, pv_bn0, pv_b1, Bool.false_eq_true, Bool.true_eq_false, Bool.not_false, Bool.not_true, pv_bT, pv_bF, eq_self, G.o, G.r12, G.t110, hv, hc, M.M.D r hr]
        unfold recX at hP
        cases hb : (sD (xS x)).testBit r <;> simpa [hb, nI] using hP
      · show pv_E _ 125 P 110 _ _ _ _ _ _
        simp only [z125_0, z125_1, z125_2, z125_5, z125_6, z125_7, z125_10, z125_13, z125_14, z125_15, z125_60, z125_61, z125_64, z125_65, z125_66, z125_67, z125_68, z125_71, z125_72, z125_73, z125_74, z125_75, z125_78, z125_79, z125_80, z125_81, z125_82, z125_85, z125_86, z125_87, z125_88, z125_89, z125_92, z125_93, z125_94, z125_95, z125_96, z125_99, z125_100, z125_101, z125_104, z125_105, z125_108, z125_109, z125_110, z125_111, z125_114, z125_115, z125_116, z125_117, z125_119, pv_catN, pv_cat1, pv_cat2, pv_cat3, pv_catL, Option.toList, List.nil_append, List.cons_append, List.append_nil, pv_rfS, pn_i, pn_r, pn_n, pn_o, true_and, and_true, Nat.le_refl, and_self, true_implies, false_implies, not_true_eq_false, not_false_eq_true, pv_b0, pv_b01, pv_bn0, pv_b1, Bool.false_eq_true, Bool.true_eq_false, Bool.not_false, Bool.not_true, pv_bT, pv_bF, eq_self, G.o, G.r13, G.t111, hv, hc, M.M.X r hr]; exact hP
def citA (x : SX) (a b : Int32) : Int32 := if inr a (tR (xT x)) && inr b (tR (xT x)) then pv_b ((tC (xT x) a.toNatClampNeg).testBit b.toNatClampNeg) else -1
theorem oC66 {x : SX} (O : okX x) (a b : Int32) : OpC 5 66 [.int a, .int b] x (.int (citA x a b)) x := by
  intro d P g h ⟨rt, tt, q, G, C⟩ hP
  have hP := hP g h ⟨rt, tt, q, G, C⟩ FG.rf FC.rf
  have hR := O.R
  unfold citA at hP
  cases hI : inr a (tR (xT x)) with
  | false =>
    simp only [e66, z66_0, z66_1, z66_2, z66_5, z66_8, z66_9, z66_10, z66_13, z66_16, z66_17, z66_18, z66_19, z66_22, z66_23, z66_27, z66_30, z66_31, z66_34, z66_35, pv_catN, pv_cat1, pv_cat2, pv_cat3, pv_catL, Option.toList, List.nil_append, List.cons_append, List.append_nil, pv_rfS, pn_i, pn_r, pn_n, pn_o, true_and, and_true, Nat.le_refl, and_self, true_implies, false_implies, not_true_eq_false, not_false_eq_true, pv_b0, pv_b01, pv_bn0, pv_b1, Bool.false_eq_true, Bool.true_eq_false, Bool.not_false, Bool.not_true, pv_bT, pv_bF, eq_self, G.o0, m86 G C O, hI]
    simpa [hI] using hP
  | true =>
    cases hJ : inr b (tR (xT x)) with
    | false =>
      simp only [e66, z66_0, z66_1, z66_2, z66_5, z66_8, z66_9, z66_10, z66_13, z66_16, z66_17, z66_18, z66_19, z66_22, z66_23, z66_27, z66_30, z66_31, z66_34, z66_35, pv_catN, pv_cat1, pv_cat2, pv_cat3, pv_catL, Option.toList, List.nil_append, List.cons_append, List.append_nil, pv_rfS, pn_i, pn_r, pn_n, pn_o, true_and, and_true, Nat.le_refl, and_self, true_implies, false_implies, not_true_eq_false, not_false_eq_true, pv_b0, pv_b01, pv_bn0, pv_b1, Bool.false_eq_true, Bool.true_eq_false, Bool.not_false, Bool.not_true, pv_bT, pv_bF, eq_self, G.o0, m86 G C O, hI, hJ]
      simpa [hI, hJ] using hP
    | true =>
      obtain ⟨r, hr, rfl⟩ := inr_t hI
      obtain ⟨o, ho, rfl⟩ := inr_t hJ
      have hv := vp_nI (show r < 8 by omega) (show 8 < 2 ^ 31 by decide)
      have hc := nI_clamp (show r < 2 ^ 31 by omega)
      have hc2 := nI_clamp (show o < 2 ^ 31 by omega)
      have hC := p8 (O.T.2.2.2.1 r hr).2.2.2.1 hR
      simp only [e66, z66_0, z66_1, z66_2, z66_5, z66_8, z66_9, z66_10, z66_13, z66_16, z66_17, z66_18, z66_19, z66_22, z66_23, z66_24, z66_27, z66_30, z66_31, z66_34, z66_35, pv_catN, pv_cat1, pv_cat2, pv_cat3, pv_catL, Option.toList, List.nil_append, List.cons_append, List.append_nil, pv_rfS, pn_i, pn_r, pn_n, pn_o, true_and, and_true, Nat.le_refl, and_self, true_implies, false_implies, not_true_eq_false, not_false_eq_true, pv_b0, pv_b01, pv_bn0, pv_b1, Bool.false_eq_true, Bool.true_eq_false, Bool.not_false, Bool.not_true, pv_bT, pv_bF, eq_self, G.o0, G.r0_3, m86 G C O, hI, hJ, G.Tr.1, e52, z52_0, z52_1, z52_4, z52_5, z52_6, z52_7, z52_10, G.Tr.2.2.2.2.2.2.2.1, G.Tr.2.2.2.2.2.2.2.2.2.2.2.2.2.2, hv, hc, C.T.2.2.2.2.2 r hr, m98 (show tC (xT x) r < 2 ^ 31 by omega) (show o < 32 by omega)]
      rw [hI, hJ, hc, hc2] at hP
      cases hb : (tC (xT x) r).testBit o <;> simpa [hb, pv_b] using hP
theorem oM126 {x : SX} (O : okX x) (a b : Int32) : OpM 4 126 [.int a, .int b] x (.int (citA x a b)) x := by
  intro d P g h ⟨G, M0⟩ hP
  have M := M0.t0
  have hP := hP _ ⟨G, M⟩ (FM.rf.st (by omega))
  have hR := O.R
  unfold citA at hP
  cases hI : inr a (tR (xT x)) with
  | false =>
    simp only [e126, z126_0, z126_1, z126_2, z126_5, z126_6, z126_7, z126_10, z126_13, z126_14, z126_15, z126_18, z126_21, z126_22, z126_23, z126_24, z126_27, z126_29, z126_30, z126_31, z126_32, z126_33, z126_34, z126_37, z126_38, z126_41, z126_42, pv_catN, pv_cat1, pv_cat2, pv_cat3, pv_catL, Option.toList, List.nil_append, List.cons_append, List.append_nil, pv_rfS, pn_i, pn_r, pn_n, pn_o, true_and, and_true, Nat.le_refl, and_self, true_implies, false_implies, not_true_eq_false, not_false_eq_true, pv_b0, pv_b01, pv_bn0, pv_b1, Bool.false_eq_true, Bool.true_eq_false, Bool.not_false, Bool.not_true, pv_bT, pv_bF, eq_self, G.o, m102 G M O, hI]
    simpa [hI] using hP
  | true =>
    cases hJ : inr b (tR (xT x)) with
    | false =>
      simp only [e126, z126_0, z126_1, z126_2, z126_5, z126_6, z126_7, z126_10, z126_13, z126_14, z126_15, z126_18, z126_21, z126_22, z126_23, z126_24, z126_27, z126_29, z126_30, z126_31, z126_32, z126_33, z126_34, z126_37, z126_38, z126_41, z126_42, pv_catN, pv_cat1, pv_cat2, pv_cat3, pv_catL, Option.toList, List.nil_append, List.cons_append, List.append_nil, pv_rfS, pn_i, pn_r, pn_n, pn_o, true_and, and_true, Nat.le_refl, and_self, true_implies, false_implies, not_true_eq_false, not_false_eq_true, pv_b0, pv_b01, pv_bn0, pv_b1, Bool.false_eq_true, Bool.true_eq_false, Bool.not_false, Bool.not_true, pv_bT, pv_bF, eq_self, G.o, m102 G M O, hI, hJ]
      simpa [hI, hJ] using hP
    | true =>
      obtain ⟨r, hr, rfl⟩ := inr_t hI
      obtain ⟨o, ho, rfl⟩ := inr_t hJ
      have hc := nI_clamp (show r < 2 ^ 31 by omega)
      have hc2 := nI_clamp (show o < 2 ^ 31 by omega)
      have e8 : (8 : Int32) * nI r + nI o = nI (8 * r + o) := by
        rw [show (8 : Int32) = nI 8 from rfl, pk_mul, nI_add]
      simp only [e126, z126_0, z126_1, z126_2, z126_5, z126_6, z126_7, z126_10, z126_13, z126_14, z126_15, z126_18, z126_21, z126_22, z126_23, z126_24, z126_27, z126_29, z126_30, z126_31, z126_32, z126_33, z126_34, z126_37, z126_38, z126_41, z126_42, pv_catN, pv_cat1, pv_cat2, pv_cat3, pv_catL, Option.toList, List.nil_append, List.cons_append, List.append_nil, pv_rfS, pn_i, pn_r, pn_n, pn_o, true_and, and_true, Nat.le_refl, and_self, true_implies, false_implies, not_true_eq_false, not_false_eq_true, pv_b0, pv_b01, pv_bn0, pv_b1, Bool.false_eq_true, Bool.true_eq_false, Bool.not_false, Bool.not_true, pv_bT, pv_bF, eq_self, G.o, m102 G M O, hI, hJ, G.r14, G.t112, e8, vp_nI (show 8 * r + o < 64 by omega) (by decide), nI_clamp (show 8 * r + o < 2 ^ 31 by omega), M.M.C r o hr ho]
      rw [hI, hJ, hc, hc2] at hP
      cases hb : (tC (xT x) r).testBit o <;> simpa [hb, pv_b] using hP
