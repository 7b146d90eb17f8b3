/-! carry -/
theorem okT.w {t : ST} (T : okT t) (set : Nat) : wOf (tW t) set (tR t) ≤ 72 := by
  have h := sm_le (f := fun r => if set.testBit r then tW t r else 0) (b := 9) (n := tR t) (fun r hr => by
    have := (T.2.2.2.1 r hr).2.1
    show (if set.testBit r then tW t r else 0) ≤ 9
    split <;> omega)
  have := T.2.2.1
  unfold wOf
  omega
theorem okX.W {x : SX} (O : okX x) (set : Nat) : wOf (tW (xT x)) set (tR (xT x)) ≤ 72 := O.T.w set
theorem okX.now {x : SX} (O : okX x) {s : SS} (h : okS (xT x) s) : okX (setNow x s) := ⟨O.1, h, O.2.2⟩
theorem okX.push {x : SX} (O : okX x) : okX (pushX x) := by
  refine ⟨O.1, O.2.1, O.2.2.1, pushL_len O.2.2.2.1, fun s hs => ?_, O.2.2.2.2.2⟩
  have hs : s ∈ pushL (xA x) (xS x) := hs
  unfold pushL at hs
  rw [List.mem_append] at hs
  rcases hs with z | z
  · split at z
    · exact O.2.2.2.2.1 s z
    · exact O.2.2.2.2.1 s (List.mem_of_mem_drop z)
  · rw [List.mem_singleton] at z
    subst z
    exact O.2.1
theorem m48 {d : Nat} {P : PvP} {g : PvG} {h : PvH} {o set f : Nat} (G : gS g o) (hs : set < 256) (hP : ∀ h' : PvH, (∀ a, a ≠ o + 1 → h' a = h a) → (∀ r, r < 8 → h' (o + 1) r = if set.testBit r then nI f else h (o + 1) r) → P none g h') : pv_run (d + 2) 48 [.ref o, .int (nI set), .int (nI f)] g h P := by
  have loop : ∀ n i (h1 : PvH), i + n = 8 → (∀ a, a ≠ o + 1 → h1 a = h a) → (∀ r, r < 8 → h1 (o + 1) r = if (decide (r < i) && set.testBit r) = true then nI f else h (o + 1) r) → pv_E (d + 1) 48 P 2 [some (.ref o), some (.int (nI set)), some (.int (nI f)), some (.int (nI i))] [] 0 0 g h1 := by
    intro n
    induction n with
    | zero =>
      intro i h1 hi f1 f2
      have hi : i = 8 := hi
      subst hi
      rw [z48_2]
      simp only [z48_0, z48_1, z48_3, z48_5, z48_8, z48_9, z48_10, z48_13, z48_16, z48_17, z48_20, z48_21, z48_22, z48_23, z48_26, z48_29, pv_catN, pv_cat1, pv_cat2, pv_cat3, pv_catL, Option.toList, List.nil_append, List.cons_append, List.append_nil, pv_rfS, pn_i, pn_r, pn_n, pn_o, true_and, and_true, Nat.le_refl, and_self, true_implies, false_implies, not_true_eq_false, not_false_eq_true, pv_b0, pv_b01, pv_bn0, pv_b1, Bool.false_eq_true, Bool.true_eq_false, Bool.not_false, Bool.not_true, pv_bT, pv_bF, eq_self, le88]
      refine hP h1 f1 (fun r hr => ?_)
      rw [f2 r hr]
      simp [hr]
    | succ n ih =>
      intro i h1 hi f1 f2
      have hi8 : i < 8 := by omega
      rw [z48_2]
      simp only [z48_0, z48_1, z48_3, z48_5, z48_8, z48_9, z48_10, z48_13, z48_16, z48_17, z48_20, z48_21, z48_22, z48_23, z48_26, z48_29, pv_catN, pv_cat1, pv_cat2, pv_cat3, pv_catL, Option.toList, List.nil_append, List.cons_append, List.append_nil, pv_rfS, pn_i, pn_r, pn_n, pn_o, true_and, and_true, Nat.le_refl, and_self, true_implies, false_implies, not_true_eq_false, not_false_eq_true, pv_b0, pv_b01, pv_bn0, pv_b1, Bool.false_eq_true, Bool.true_eq_false, Bool.not_false, Bool.not_true, pv_bT, pv_bF, eq_self, le8 hi8, m98 (show set < 2 ^ 31 by omega) (show i < 32 by omega), G.1, G.2.1, G.2.2.2.2.1, vp_nI hi8 (show 8 < 2 ^ 31 by decide), nI_clamp (show i < 2 ^ 31 by omega), nI_1]
      refine br (fun c => ?_) (fun c => ?_)
      · refine ih (i + 1) h1 (by omega) f1 (fun r hr => ?_)
        rw [f2 r hr]
        by_cases e : r = i
        · subst e; simp [c]
        · rw [show decide (r < i + 1) = decide (r < i) from decide_eq_decide.mpr (by omega)]
      · refine ih (i + 1) _ (by omega) (fun a ha => by rw [st_o ha, f1 a ha]) (fun r hr => ?_)
        by_cases e : r = i
        · subst e; rw [st_at]; simp [c]
        · rw [st_k e, f2 r hr, show decide (r < i + 1) = decide (r < i) from decide_eq_decide.mpr (by omega)]
  simp only [e48, z48_0, z48_1, pv_catN, pv_cat1, pv_cat2, pv_cat3, pv_catL, Option.toList, List.nil_append, List.cons_append, List.append_nil, pv_rfS, pn_i, pn_r, pn_n, pn_o, true_and, and_true, Nat.le_refl, and_self, true_implies, false_implies, not_true_eq_false, not_false_eq_true, pv_b0, pv_b01, pv_bn0, pv_b1, Bool.false_eq_true, Bool.true_eq_false, Bool.not_false, Bool.not_true, pv_bT, pv_bF, eq_self]
  exact loop 8 0 h rfl (fun _ _ => rfl) (fun r hr => by simp)
theorem m88 {d : Nat} {P : PvP} {g : PvG} {h : PvH} {rt tt : Nat} {q : Nat → Nat} {x : SX} (G : gC g rt tt q) (C : cC h rt q x) (O : okX x) {f w : Nat} (hf : f < tF (xT x)) (hw : w ≤ 1000) (hP : P (some (.int (pv_b (decide (wOf (tW (xT x)) (onF (xS x) f (tR (xT x))) (tR (xT x)) + w ≤ tB (xT x) f))))) g h) : pv_run (d + 4) 88 [.ref 0, .int (nI f), .int (nI w)] g h P := by
  have hF := O.F
  have hR := O.R
  have hW := O.W (onF (xS x) f (tR (xT x)))
  have hB := O.T.2.2.2.2 f hf
  simp only [e88, z88_0, z88_1, z88_4, z88_5, z88_8, z88_9, z88_10, z88_13, z88_22, z88_23, z88_24, z88_25, z88_26, z88_27, z88_30, z88_33, z88_34, z88_35, z88_38, z88_39, z88_42, z88_43, pv_catN, pv_cat1, pv_cat2, pv_cat3, pv_catL, Option.toList, List.nil_append, List.cons_append, List.append_nil, pv_rfS, pn_i, pn_r, pn_n, pn_o, true_and, and_true, Nat.le_refl, and_self, true_implies, false_implies, not_true_eq_false, not_false_eq_true, pv_b0, pv_b01, pv_bn0, pv_b1, Bool.false_eq_true, Bool.true_eq_false, Bool.not_false, Bool.not_true, pv_bT, pv_bF, eq_self, G.o0, G.r0_3, G.r0_4, G.Tr.1, C.T.2.2.1]
  rw [z88_16 (by simp [pv_cat, Value.category]) (by decide)]
  refine ⟨G.S20.1, m43 G.S20 C.S O.D hR (by omega) O.p31 ?_⟩
  simp only [Option.toList, List.cons_append, List.nil_append]
  rw [z88_19 (by simp [pv_cat, Value.category]) (by decide)]
  refine ⟨G.Tr.1, m53 G.Tr C.T (O.on f) hR ?_⟩
  simp only [z88_0, z88_1, z88_4, z88_5, z88_8, z88_9, z88_10, z88_13, z88_16, z88_19, z88_22, z88_23, z88_24, z88_25, z88_26, z88_27, z88_30, z88_33, z88_34, z88_35, z88_38, z88_39, z88_42, z88_43, pv_catN, pv_cat1, pv_cat2, pv_cat3, pv_catL, Option.toList, List.nil_append, List.cons_append, List.append_nil, pv_rfS, pn_i, pn_r, pn_n, pn_o, true_and, and_true, Nat.le_refl, and_self, true_implies, false_implies, not_true_eq_false, not_false_eq_true, pv_b0, pv_b01, pv_bn0, pv_b1, Bool.false_eq_true, Bool.true_eq_false, Bool.not_false, Bool.not_true, pv_bT, pv_bF, eq_self, G.o0, G.r0_3, G.Tr.1, G.Tr.2.1, G.Tr.2.2.2.2.2.2.2.2.1, vp_nI (show f < 5 by omega) (show 5 < 2 ^ 31 by decide), nI_clamp (show f < 2 ^ 31 by omega), C.T.2.1 f hf, nI_add, nI_lt' (show tB (xT x) f < 2 ^ 31 by omega) (show wOf (tW (xT x)) (onF (xS x) f (tR (xT x))) (tR (xT x)) + w < 2 ^ 31 by omega)]
  refine ⟨fun c => ?_, fun c => ?_⟩
  · rw [decide_eq_false (by omega)] at hP; exact ⟨Or.inl trivial, hP⟩
  · rw [decide_eq_true (by omega)] at hP; exact ⟨Or.inr trivial, hP⟩
def carS (s : SS) (set f n : Nat) : SS := (fun r => if set.testBit r then f else sP s r, sV s, sK s, sD s, sH s, sE s, sL s - n)
def carG (x : SX) (r : Nat) : Nat := grp (xS x) r (tR (xT x))
def carN (x : SX) (r f : Nat) : Nat := (f - sP (xS x) r) * wOf (tW (xT x)) (carG x r) (tR (xT x))
def carB (x : SX) (r f : Nat) : Bool := th (xS x) r && decide (sP (xS x) r < f) && decide (carN x r f ≤ sL (xS x)) && decide (wOf (tW (xT x)) (onF (xS x) f (tR (xT x))) (tR (xT x)) + wOf (tW (xT x)) (carG x r) (tR (xT x)) ≤ tB (xT x) f)
def carA (x : SX) (a b : Int32) : Int32 := if inr a (tR (xT x)) && inr b (tF (xT x)) then (if carB x a.toNatClampNeg b.toNatClampNeg then nI (carN x a.toNatClampNeg b.toNatClampNeg) else -3) else -1
def carX (x : SX) (a b : Int32) : SX := if inr a (tR (xT x)) && inr b (tF (xT x)) && carB x a.toNatClampNeg b.toNatClampNeg then setNow (pushX x) (carS (xS x) (carG x a.toNatClampNeg) b.toNatClampNeg (carN x a.toNatClampNeg b.toNatClampNeg)) else x
theorem carG_lt {x : SX} (O : okX x) (r : Nat) : carG x r < 256 := p8 (mk_lt _ _) O.R
theorem carN_le {x : SX} (O : okX x) (r : Nat) {f : Nat} (hf : f < tF (xT x)) : carN x r f ≤ 360 := by
  have := O.F
  have := O.W (carG x r)
  exact Nat.le_trans (Nat.mul_le_mul (show f - sP (xS x) r ≤ 5 by omega) this) (by decide)
theorem oC68 {x : SX} (O : okX x) (a b : Int32) : OpC 5 68 [.int a, .int b] x (.int (carA x a b)) (carX x a b) := by
  intro d P g h ⟨rt, tt, q, G, C⟩ hP
  have hF := O.F
  have hR := O.R
  have hD := O.D
  unfold carA carX at hP
  cases hI : inr a (tR (xT x)) with
  | false =>
    rw [hI] at hP
    have hP := hP g h ⟨rt, tt, q, G, C⟩ FG.rf FC.rf
    simp only [e68, z68_0, z68_1, z68_2, z68_5, z68_8, z68_9, z68_10, z68_13, z68_16, z68_17, z68_18, z68_19, z68_22, z68_23, z68_26, z68_29, z68_30, z68_31, z68_34, z68_37, z68_38, z68_39, z68_42, z68_44, z68_45, z68_46, z68_49, z68_50, z68_51, z68_54, z68_60, z68_61, z68_62, z68_65, z68_69, z68_71, z68_72, z68_73, z68_76, z68_79, z68_80, z68_81, z68_82, z68_84, z68_85, z68_87, z68_89, z68_90, z68_93, z68_96, z68_99, z68_100, z68_101, z68_106, z68_109, z68_111, z68_112, z68_113, z68_116, z68_117, z68_123, z68_124, z68_127, z68_128, z68_132, z68_133, z68_136, y68_136, z68_137, z68_140, z68_142, z68_143, z68_146, z68_148, pv_catN, pv_cat1, pv_cat2, pv_cat3, pv_catL, Option.toList, List.nil_append, List.cons_append, List.append_nil, pv_rfS, pn_i, pn_r, pn_n, pn_o, true_and, and_true, Nat.le_refl, and_self, true_implies, false_implies, not_true_eq_false, not_false_eq_true, pv_b0, pv_b01, pv_bn0, pv_b1, Bool.false_eq_true, Bool.true_eq_false, Bool.not_false, Bool.not_true, pv_bT, pv_bF, eq_self, G.o0, m86 G C O, hI]
    exact hP
  | true =>
    cases hJ : inr b (tF (xT x)) with
    | false =>
      rw [hI, hJ] at hP
      have hP := hP g h ⟨rt, tt, q, G, C⟩ FG.rf FC.rf
      simp only [e68, z68_0, z68_1, z68_2, z68_5, z68_8, z68_9, z68_10, z68_13, z68_16, z68_17, z68_18, z68_19, z68_22, z68_23, z68_26, z68_29, z68_30, z68_31, z68_34, z68_37, z68_38, z68_39, z68_42, z68_44, z68_45, z68_46, z68_49, z68_50, z68_51, z68_54, z68_60, z68_61, z68_62, z68_65, z68_69, z68_71, z68_72, z68_73, z68_76, z68_79, z68_80, z68_81, z68_82, z68_84, z68_85, z68_87, z68_89, z68_90, z68_93, z68_96, z68_99, z68_100, z68_101, z68_106, z68_109, z68_111, z68_112, z68_113, z68_116, z68_117, z68_123, z68_124, z68_127, z68_128, z68_132, z68_133, z68_136, y68_136, z68_137, z68_140, z68_142, z68_143, z68_146, z68_148, pv_catN, pv_cat1, pv_cat2, pv_cat3, pv_catL, Option.toList, List.nil_append, List.cons_append, List.append_nil, pv_rfS, pn_i, pn_r, pn_n, pn_o, true_and, and_true, Nat.le_refl, and_self, true_implies, false_implies, not_true_eq_false, not_false_eq_true, pv_b0, pv_b01, pv_bn0, pv_b1, Bool.false_eq_true, Bool.true_eq_false, Bool.not_false, Bool.not_true, pv_bT, pv_bF, eq_self, G.o0, m86 G C O, m85 G C O, hI, hJ]
      exact hP
    | true =>
      obtain ⟨r, hr, rfl⟩ := inr_t hI
      obtain ⟨f, hf, rfl⟩ := inr_t hJ
      have hcr := nI_clamp (show r < 2 ^ 31 by omega)
      have hcf := nI_clamp (show f < 2 ^ 31 by omega)
      have hp := (O.S.1 r hr).1
      rw [hI, hJ, hcr, hcf] at hP
      simp only [Bool.true_and, Bool.and_true, if_true] at hP
      have bad : carB x r f = false → P (some (.int (-3))) g h := fun c => by
        rw [c] at hP
        exact hP g h ⟨rt, tt, q, G, C⟩ FG.rf FC.rf
      simp only [e68, z68_0, z68_1, z68_2, z68_5, z68_8, z68_9, z68_10, z68_13, z68_16, z68_17, z68_18, z68_19, z68_22, z68_23, z68_26, z68_29, z68_30, z68_31, z68_34, z68_37, z68_38, z68_39, z68_42, z68_44, z68_45, z68_46, z68_49, z68_50, z68_51, z68_54, z68_60, z68_61, z68_62, z68_65, z68_69, z68_71, z68_72, z68_73, z68_76, z68_79, z68_80, z68_81, z68_82, z68_84, z68_85, z68_87, z68_89, z68_90, z68_93, z68_96, z68_99, z68_100, z68_101, z68_106, z68_109, z68_111, z68_112, z68_113, z68_116, z68_117, z68_123, z68_124, z68_127, z68_128, z68_132, z68_133, z68_136, y68_136, z68_137, z68_140, z68_142, z68_143, z68_146, z68_148, pv_catN, pv_cat1, pv_cat2, pv_cat3, pv_catL, Option.toList, List.nil_append, List.cons_append, List.append_nil, pv_rfS, pn_i, pn_r, pn_n, pn_o, true_and, and_true, Nat.le_refl, and_self, true_implies, false_implies, not_true_eq_false, not_false_eq_true, pv_b0, pv_b01, pv_bn0, pv_b1, Bool.false_eq_true, Bool.true_eq_false, Bool.not_false, Bool.not_true, pv_bT, pv_bF, eq_self, G.o0, G.S20.1, G.S20.2.1, G.S20.2.2.2.2.1, m86 G C O, m85 G C O, hI, hJ, G.r0_4, G.r0_3, G.Tr.1, m42 G.S20 C.S hD (show r < 32 by omega), C.T.2.2.1, vp_nI (show r < 8 by omega) (show 8 < 2 ^ 31 by decide), hcr, C.S.1 r hr, nI_lt' (show sP (xS x) r < 2 ^ 31 by omega) (show f < 2 ^ 31 by omega)]
      refine br (fun c => ?_) (fun ct => ⟨fun cf => ?_, fun cf => ?_⟩)
      · exact bad (by unfold carB; rw [c]; rfl)
      · rw [z68_57 (by simp [pv_cat, Value.category]) (by decide)]
        refine ⟨G.S20.1, m46 G.S20 C.S O.S hR hr ct ?_⟩
        simp only [z68_60, z68_61, z68_62, z68_65, pv_catN, pv_cat1, pv_cat2, pv_cat3, pv_catL, Option.toList, List.nil_append, List.cons_append, List.append_nil, pv_rfS, pn_i, pn_r, pn_n, pn_o, true_and, and_true, Nat.le_refl, and_self, true_implies, false_implies, not_true_eq_false, not_false_eq_true, pv_b0, pv_b01, pv_bn0, pv_b1, Bool.false_eq_true, Bool.true_eq_false, Bool.not_false, Bool.not_true, pv_bT, pv_bF, eq_self, G.o0, G.r0_3]
        rw [z68_66 (by simp [pv_cat, Value.category]) (by decide)]
        have hg := carG_lt O r
        have hn := carN_le O r hf
        have hw := O.W (carG x r)
        refine ⟨G.Tr.1, m53 (set := carG x r) G.Tr C.T hg hR ?_⟩
        have esub : nI f - nI (sP (xS x) r) = nI (f - sP (xS x) r) := pk_sub (by omega)
        simp only [z68_0, z68_1, z68_2, z68_5, z68_8, z68_9, z68_10, z68_13, z68_16, z68_17, z68_18, z68_19, z68_22, z68_23, z68_26, z68_29, z68_30, z68_31, z68_34, z68_37, z68_38, z68_39, z68_42, z68_44, z68_45, z68_46, z68_49, z68_50, z68_51, z68_54, z68_60, z68_61, z68_62, z68_65, z68_69, z68_71, z68_72, z68_73, z68_76, z68_79, z68_80, z68_81, z68_82, z68_84, z68_85, z68_87, z68_89, z68_90, z68_93, z68_96, z68_99, z68_100, z68_101, z68_106, z68_109, z68_111, z68_112, z68_113, z68_116, z68_117, z68_123, z68_124, z68_127, z68_128, z68_132, z68_133, z68_136, y68_136, z68_137, z68_140, z68_142, z68_143, z68_146, z68_148, pv_catN, pv_cat1, pv_cat2, pv_cat3, pv_catL, Option.toList, List.nil_append, List.cons_append, List.append_nil, pv_rfS, pn_i, pn_r, pn_n, pn_o, true_and, and_true, Nat.le_refl, and_self, true_implies, false_implies, not_true_eq_false, not_false_eq_true, pv_b0, pv_b01, pv_bn0, pv_b1, Bool.false_eq_true, Bool.true_eq_false, Bool.not_false, Bool.not_true, pv_bT, pv_bF, eq_self, G.o0, G.S20.1, G.S20.2.1, G.S20.2.2.2.2.1, G.r0_4, vp_nI (show r < 8 by omega) (show 8 < 2 ^ 31 by decide), hcr, C.S.1 r hr, esub, pk_mul, C.S.2.2.2.2.2.2, show (f - sP (xS x) r) * wOf (tW (xT x)) (carG x r) (tR (xT x)) = carN x r f from rfl, nI_lt' (show sL (xS x) < 2 ^ 31 by have := O.S.2.2.2.1; have := O.S.2.2.2.2.1; omega) (show carN x r f < 2 ^ 31 by omega)]
        refine ⟨fun c => ?_, fun c => ?_⟩
        · exact bad (by unfold carB; rw [decide_eq_false (show ¬ carN x r f ≤ sL (xS x) by omega)]; simp)
        · rw [z68_103 (by simp [pv_cat, Value.category]) (by decide)]
          refine ⟨G.o0, m88 G C O hf (by omega) ?_⟩
          cases hb : decide (wOf (tW (xT x)) (onF (xS x) f (tR (xT x))) (tR (xT x)) + wOf (tW (xT x)) (carG x r) (tR (xT x)) ≤ tB (xT x) f) with
          | false =>
            simp only [z68_0, z68_1, z68_2, z68_5, z68_8, z68_9, z68_10, z68_13, z68_16, z68_17, z68_18, z68_19, z68_22, z68_23, z68_26, z68_29, z68_30, z68_31, z68_34, z68_37, z68_38, z68_39, z68_42, z68_44, z68_45, z68_46, z68_49, z68_50, z68_51, z68_54, z68_60, z68_61, z68_62, z68_65, z68_69, z68_71, z68_72, z68_73, z68_76, z68_79, z68_80, z68_81, z68_82, z68_84, z68_85, z68_87, z68_89, z68_90, z68_93, z68_96, z68_99, z68_100, z68_101, z68_106, z68_109, z68_111, z68_112, z68_113, z68_116, z68_117, z68_123, z68_124, z68_127, z68_128, z68_132, z68_133, z68_136, y68_136, z68_137, z68_140, z68_142, z68_143, z68_146, z68_148, pv_catN, pv_cat1, pv_cat2, pv_cat3, pv_catL, Option.toList, List.nil_append, List.cons_append, List.append_nil, pv_rfS, pn_i, pn_r, pn_n, pn_o, true_and, and_true, Nat.le_refl, and_self, true_implies, false_implies, not_true_eq_false, not_false_eq_true, pv_b0, pv_b01, pv_bn0, pv_b1, Bool.false_eq_true, Bool.true_eq_false, Bool.not_false, Bool.not_true, pv_bT, pv_bF, eq_self]
            exact bad (by unfold carB; rw [hb]; simp)
          | true =>
            have hB : carB x r f = true := by
              unfold carB
              rw [ct, hb, decide_eq_true cf, decide_eq_true (show carN x r f ≤ sL (xS x) by omega)]
              rfl
            rw [hB] at hP
            simp only [if_true] at hP
            simp only [z68_0, z68_1, z68_2, z68_5, z68_8, z68_9, z68_10, z68_13, z68_16, z68_17, z68_18, z68_19, z68_22, z68_23, z68_26, z68_29, z68_30, z68_31, z68_34, z68_37, z68_38, z68_39, z68_42, z68_44, z68_45, z68_46, z68_49, z68_50, z68_51, z68_54, z68_60, z68_61, z68_62, z68_65, z68_69, z68_71, z68_72, z68_73, z68_76, z68_79, z68_80, z68_81, z68_82, z68_84, z68_85, z68_87, z68_89, z68_90, z68_93, z68_96, z68_99, z68_100, z68_101, z68_106, z68_109, z68_111, z68_112, z68_113, z68_116, z68_117, z68_123, z68_124, z68_127, z68_128, z68_132, z68_133, z68_136, y68_136, z68_137, z68_140, z68_142, z68_143, z68_146, z68_148, pv_catN, pv_cat1, pv_cat2, pv_cat3, pv_catL, Option.toList, List.nil_append, List.cons_append, List.append_nil, pv_rfS, pn_i, pn_r, pn_n, pn_o, true_and, and_true, Nat.le_refl, and_self, true_implies, false_implies, not_true_eq_false, not_false_eq_true, pv_b0, pv_b01, pv_bn0, pv_b1, Bool.false_eq_true, Bool.true_eq_false, Bool.not_false, Bool.not_true, pv_bT, pv_bF, eq_self, G.o0, G.r0_6, G.r0_4]
            rw [z68_120 (by simp [pv_cat, Value.category]) (by decide)]
            refine ⟨G.o25, m1 G C O fun g1 h1 q1 G1 F1 f1 C1 => ?_⟩
            simp only [z68_123, z68_124, z68_127, z68_128, pv_catN, pv_cat1, pv_cat2, pv_cat3, pv_catL, Option.toList, List.nil_append, List.cons_append, List.append_nil, pv_rfS, pn_i, pn_r, pn_n, pn_o, true_and, and_true, Nat.le_refl, and_self, true_implies, false_implies, not_true_eq_false, not_false_eq_true, pv_b0, pv_b01, pv_bn0, pv_b1, Bool.false_eq_true, Bool.true_eq_false, Bool.not_false, Bool.not_true, pv_bT, pv_bF, eq_self, G1.o0, G1.r0_4]
            rw [z68_129 (by simp [pv_cat, Value.category]) (by decide)]
            refine ⟨G1.S20.1, m48 (set := carG x r) (f := f) G1.S20 hg fun h2 f2 c2 => ?_⟩
            have e6 : h2 20 6 = nI (sL (xS x)) := by rw [f2 20 (by omega)]; exact C1.S.2.2.2.2.2.2
            have es : nI (sL (xS x)) - nI (carN x r f) = nI (sL (xS x) - carN x r f) := pk_sub (by omega)
            simp only [z68_0, z68_1, z68_2, z68_5, z68_8, z68_9, z68_10, z68_13, z68_16, z68_17, z68_18, z68_19, z68_22, z68_23, z68_26, z68_29, z68_30, z68_31, z68_34, z68_37, z68_38, z68_39, z68_42, z68_44, z68_45, z68_46, z68_49, z68_50, z68_51, z68_54, z68_57, z68_60, z68_61, z68_62, z68_65, z68_66, z68_69, z68_71, z68_72, z68_73, z68_76, z68_79, z68_80, z68_81, z68_82, z68_84, z68_85, z68_87, z68_89, z68_90, z68_93, z68_96, z68_99, z68_100, z68_101, z68_103, z68_106, z68_109, z68_111, z68_112, z68_113, z68_116, z68_117, z68_120, z68_123, z68_124, z68_127, z68_128, z68_129, z68_132, z68_133, z68_136, y68_136, z68_137, z68_140, z68_142, z68_143, z68_146, z68_148, pv_catN, pv_cat1, pv_cat2, pv_cat3, pv_catL, Option.toList, List.nil_append, List.cons_append, List.append_nil, pv_rfS, pn_i, pn_r, pn_n, pn_o, true_and, and_true, Nat.le_refl, and_self, true_implies, false_implies, not_true_eq_false, not_false_eq_true, pv_b0, pv_b01, pv_bn0, pv_b1, Bool.false_eq_true, Bool.true_eq_false, Bool.not_false, Bool.not_true, pv_bT, pv_bF, eq_self, G1.o0, G1.r0_4, G1.S20.1, e6, es]
            refine hP g1 _ ⟨rt, tt, q1, G1, cC.now (x := pushX x) G1 C1 O.push (fun o h1 h2 h3 h4 => by rw [st_o h1, f2 o h2]) ?_⟩ F1 (fun o ho => by rw [st_o (by omega), f2 o (by omega), f1 o (by omega)])
            obtain ⟨s1, s2, s3, s4, s5, s6, s7⟩ := C1.S
            refine ⟨fun e he => ?_, ?_, ?_, ?_, ?_, ?_, ?_⟩
            · rw [st_o (by omega), c2 e (Nat.lt_of_lt_of_le he hR)]
              show _ = nI (if (carG x r).testBit e then f else sP (xS x) e)
              split
              · rfl
              · exact s1 e he
            · rw [st_o (by omega), f2 _ (by omega)]; exact s2
            · rw [st_o (by omega), f2 _ (by omega)]; exact s3
            · rw [st_k (by omega), f2 _ (by omega)]; exact s4
            · rw [st_k (by omega), f2 _ (by omega)]; exact s5
            · rw [st_k (by omega), f2 _ (by omega)]; exact s6
            · rw [st_at]; rfl
      · exact bad (by unfold carB; rw [decide_eq_false cf]; simp)
theorem oM133 {x : SX} (O : okX x) (a b : Int32) : OpM 3 133 [.int a, .int b] x (.int (carA x a b)) (carX x a b) := by
  intro d P g h ⟨G, M0⟩ hP
  have M := M0.t0
  have hF := O.F
  have hR := O.R
  unfold carA carX at hP
  cases hI : inr a (tR (xT x)) with
  | false =>
    rw [hI] at hP
    have hP := hP _ ⟨G, M⟩ (FM.rf.st (by omega))
    simp only [e133, z133_0, z133_1, z133_2, z133_5, z133_6, z133_7, z133_10, z133_13, z133_14, z133_15, z133_18, z133_21, z133_22, z133_23, z133_24, z133_27, z133_28, z133_29, z133_32, z133_33, z133_34, z133_37, z133_38, z133_39, z133_42, z133_44, z133_45, z133_46, z133_50, z133_51, z133_52, z133_53, z133_56, z133_57, z133_58, z133_59, z133_60, z133_64, z133_65, z133_67, z133_69, z133_70, z133_73, z133_76, z133_77, z133_78, z133_85, z133_86, z133_90, z133_91, z133_92, z133_95, z133_96, z133_97, z133_100, z133_102, z133_103, z133_107, z133_108, z133_112, z133_113, z133_116, z133_119, z133_120, z133_123, z133_125, z133_126, z133_128, z133_131, z133_134, z133_135, z133_138, z133_139, z133_142, z133_144, z133_145, z133_146, z133_149, z133_152, z133_153, y133_153, z133_154, z133_157, z133_159, z133_160, z133_163, z133_165, pv_catN, pv_cat1, pv_cat2, pv_cat3, pv_catL, Option.toList, List.nil_append, List.cons_append, List.append_nil, pv_rfS, pn_i, pn_r, pn_n, pn_o, true_and, and_true, Nat.le_refl, and_self, true_implies, false_implies, not_true_eq_false, not_false_eq_true, pv_b0, pv_b01, pv_bn0, pv_b1, Bool.false_eq_true, Bool.true_eq_false, Bool.not_false, Bool.not_true, pv_bT, pv_bF, eq_self, G.o, m102 G M O, hI]
    exact hP
  | true =>
    cases hJ : inr b (tF (xT x)) with
    | false =>
      rw [hI, hJ] at hP
      have hP := hP _ ⟨G, M⟩ (FM.rf.st (by omega))
      simp only [e133, z133_0, z133_1, z133_2, z133_5, z133_6, z133_7, z133_10, z133_13, z133_14, z133_15, z133_18, z133_21, z133_22, z133_23, z133_24, z133_27, z133_28, z133_29, z133_32, z133_33, z133_34, z133_37, z133_38, z133_39, z133_42, z133_44, z133_45, z133_46, z133_50, z133_51, z133_52, z133_53, z133_56, z133_57, z133_58, z133_59, z133_60, z133_64, z133_65, z133_67, z133_69, z133_70, z133_73, z133_76, z133_77, z133_78, z133_85, z133_86, z133_90, z133_91, z133_92, z133_95, z133_96, z133_97, z133_100, z133_102, z133_103, z133_107, z133_108, z133_112, z133_113, z133_116, z133_119, z133_120, z133_123, z133_125, z133_126, z133_128, z133_131, z133_134, z133_135, z133_138, z133_139, z133_142, z133_144, z133_145, z133_146, z133_149, z133_152, z133_153, y133_153, z133_154, z133_157, z133_159, z133_160, z133_163, z133_165, pv_catN, pv_cat1, pv_cat2, pv_cat3, pv_catL, Option.toList, List.nil_append, List.cons_append, List.append_nil, pv_rfS, pn_i, pn_r, pn_n, pn_o, true_and, and_true, Nat.le_refl, and_self, true_implies, false_implies, not_true_eq_false, not_false_eq_true, pv_b0, pv_b01, pv_bn0, pv_b1, Bool.false_eq_true, Bool.true_eq_false, Bool.not_false, Bool.not_true, pv_bT, pv_bF, eq_self, G.o, m102 G M O, m103 G M O, hI, hJ]
      exact hP
    | true =>
      obtain ⟨r, hr, rfl⟩ := inr_t hI
      obtain ⟨f, hf, rfl⟩ := inr_t hJ
      have hcr := nI_clamp (show r < 2 ^ 31 by omega)
      have hcf := nI_clamp (show f < 2 ^ 31 by omega)
      have hp := (O.S.1 r hr).1
      have hB := O.T.2.2.2.2 f hf
      rw [hI, hJ, hcr, hcf] at hP
      simp only [Bool.true_and, Bool.and_true, if_true] at hP
      have hL : sL (xS x) < 2 ^ 31 := by have := O.S.2.2.2.1; have := O.S.2.2.2.2.1; omega
      simp only [e133, z133_0, z133_1, z133_2, z133_5, z133_6, z133_7, z133_10, z133_13, z133_14, z133_15, z133_18, z133_21, z133_22, z133_23, z133_24, z133_27, z133_28, z133_29, z133_32, z133_33, z133_34, z133_37, z133_38, z133_39, z133_42, z133_44, z133_45, z133_46, z133_50, z133_51, z133_52, z133_53, z133_56, z133_57, z133_58, z133_59, z133_60, z133_64, z133_65, z133_67, z133_69, z133_70, z133_73, z133_76, z133_77, z133_78, z133_85, z133_86, z133_90, z133_91, z133_92, z133_95, z133_96, z133_97, z133_100, z133_102, z133_103, z133_107, z133_108, z133_112, z133_113, z133_116, z133_119, z133_120, z133_123, z133_125, z133_126, z133_128, z133_131, z133_134, z133_135, z133_138, z133_139, z133_142, z133_144, z133_145, z133_146, z133_149, z133_152, z133_153, y133_153, z133_154, z133_157, z133_159, z133_160, z133_163, z133_165, pv_catN, pv_cat1, pv_cat2, pv_cat3, pv_catL, Option.toList, List.nil_append, List.cons_append, List.append_nil, pv_rfS, pn_i, pn_r, pn_n, pn_o, true_and, and_true, Nat.le_refl, and_self, true_implies, false_implies, not_true_eq_false, not_false_eq_true, pv_b0, pv_b01, pv_bn0, pv_b1, Bool.false_eq_true, Bool.true_eq_false, Bool.not_false, Bool.not_true, pv_bT, pv_bF, eq_self, G.o, m102 G M O, m103 G M O, hI, hJ, G.r12, G.t110, G.r11, G.t109, vp_nI (show r < 8 by omega) (show 8 < 2 ^ 31 by decide), hcr, M.M.D r hr, M.M.P r hr, nI_lt' (show sP (xS x) r < 2 ^ 31 by omega) (show f < 2 ^ 31 by omega)]
      generalize hh : pv_st h 102 0 0 = h0 at M hP
      have F0 : FM h h0 := hh ▸ FM.rf.st (by omega)
      have bad : ∀ h1 : PvH, (∀ o, o ≠ 125 → h1 o = h0 o) → carB x r f = false → P (some (.int (-3))) g h1 := fun h1 f1 c => by
        rw [c] at hP
        exact hP h1 ⟨G, M.fr (fun o h1 h2 => f1 o (by omega)) (fun k _ => by rw [f1 102 (by omega)])⟩ (fun o ho => by rw [f1 o (by omega)]; exact F0 o ho)
      have bad0 := bad h0 (fun _ _ => rfl)
      refine ⟨fun c => ?_, fun c => ⟨fun cf => ?_, fun cf => ?_⟩⟩
      · have c : (sD (xS x)).testBit r = true := by simpa using c
        exact bad0 (by unfold carB th; rw [c]; rfl)
      · have ct : th (xS x) r = true := by unfold th; rw [Classical.not_not.mp c]; rfl
        rw [z133_47 (by simp [pv_cat, Value.category]) (by decide)]
        refine ⟨G.o, m132 G M O hr fun h1 f1 => ?_⟩
        have bad1 := bad h1 f1
        have M1 : cD h1 x := M.fr (fun o h1 h2 => f1 o (by omega)) (fun k _ => by rw [f1 102 (by omega)])
        have hg := carG_lt O r
        have hn := carN_le O r hf
        have hw := O.W (carG x r)
        have hw2 := O.W (onF (xS x) f (tR (xT x)))
        have esub : nI f - nI (sP (xS x) r) = nI (f - sP (xS x) r) := pk_sub (by omega)
        simp only [z133_0, z133_1, z133_2, z133_5, z133_6, z133_7, z133_10, z133_13, z133_14, z133_15, z133_18, z133_21, z133_22, z133_23, z133_24, z133_27, z133_28, z133_29, z133_32, z133_33, z133_34, z133_37, z133_38, z133_39, z133_42, z133_44, z133_45, z133_46, z133_50, z133_51, z133_52, z133_53, z133_56, z133_57, z133_58, z133_59, z133_60, z133_64, z133_65, z133_67, z133_69, z133_70, z133_73, z133_76, z133_77, z133_78, z133_85, z133_86, z133_90, z133_91, z133_92, z133_95, z133_96, z133_97, z133_100, z133_102, z133_103, z133_107, z133_108, z133_112, z133_113, z133_116, z133_119, z133_120, z133_123, z133_125, z133_126, z133_128, z133_131, z133_134, z133_135, z133_138, z133_139, z133_142, z133_144, z133_145, z133_146, z133_149, z133_152, z133_153, y133_153, z133_154, z133_157, z133_159, z133_160, z133_163, z133_165, pv_catN, pv_cat1, pv_cat2, pv_cat3, pv_catL, Option.toList, List.nil_append, List.cons_append, List.append_nil, pv_rfS, pn_i, pn_r, pn_n, pn_o, true_and, and_true, Nat.le_refl, and_self, true_implies, false_implies, not_true_eq_false, not_false_eq_true, pv_b0, pv_b01, pv_bn0, pv_b1, Bool.false_eq_true, Bool.true_eq_false, Bool.not_false, Bool.not_true, pv_bT, pv_bF, eq_self, G.o, G.r11, G.t109, vp_nI (show r < 8 by omega) (show 8 < 2 ^ 31 by decide), hcr, M1.M.P r hr, esub]
        rw [z133_61 (by simp [pv_cat, Value.category]) (by decide)]
        refine ⟨G.o, m123 (set := carG x r) G M1.M hR hg ?_⟩
        simp only [z133_0, z133_1, z133_2, z133_5, z133_6, z133_7, z133_10, z133_13, z133_14, z133_15, z133_18, z133_21, z133_22, z133_23, z133_24, z133_27, z133_28, z133_29, z133_32, z133_33, z133_34, z133_37, z133_38, z133_39, z133_42, z133_44, z133_45, z133_46, z133_50, z133_51, z133_52, z133_53, z133_56, z133_57, z133_58, z133_59, z133_60, z133_64, z133_65, z133_67, z133_69, z133_70, z133_73, z133_76, z133_77, z133_78, z133_85, z133_86, z133_90, z133_91, z133_92, z133_95, z133_96, z133_97, z133_100, z133_102, z133_103, z133_107, z133_108, z133_112, z133_113, z133_116, z133_119, z133_120, z133_123, z133_125, z133_126, z133_128, z133_131, z133_134, z133_135, z133_138, z133_139, z133_142, z133_144, z133_145, z133_146, z133_149, z133_152, z133_153, y133_153, z133_154, z133_157, z133_159, z133_160, z133_163, z133_165, pv_catN, pv_cat1, pv_cat2, pv_cat3, pv_catL, Option.toList, List.nil_append, List.cons_append, List.append_nil, pv_rfS, pn_i, pn_r, pn_n, pn_o, true_and, and_true, Nat.le_refl, and_self, true_implies, false_implies, not_true_eq_false, not_false_eq_true, pv_b0, pv_b01, pv_bn0, pv_b1, Bool.false_eq_true, Bool.true_eq_false, Bool.not_false, Bool.not_true, pv_bT, pv_bF, eq_self, G.o, pk_mul, M1.M.L, show (f - sP (xS x) r) * wOf (tW (xT x)) (carG x r) (tR (xT x)) = carN x r f from rfl, nI_lt' hL (show carN x r f < 2 ^ 31 by omega)]
        refine ⟨fun c => ?_, fun c => ?_⟩
        · exact bad1 (by unfold carB; rw [decide_eq_false (show ¬ carN x r f ≤ sL (xS x) by omega)]; simp)
        · rw [z133_79 (by simp [pv_cat, Value.category]) (by decide)]
          refine ⟨G.o, m122 G M1.M hR (by omega) O.p31 ?_⟩
          simp only [Option.toList, List.cons_append, List.nil_append]
          rw [z133_82 (by simp [pv_cat, Value.category]) (by decide)]
          refine ⟨G.o, m123 G M1.M hR (O.on f) ?_⟩
          simp only [z133_0, z133_1, z133_2, z133_5, z133_6, z133_7, z133_10, z133_13, z133_14, z133_15, z133_18, z133_21, z133_22, z133_23, z133_24, z133_27, z133_28, z133_29, z133_32, z133_33, z133_34, z133_37, z133_38, z133_39, z133_42, z133_44, z133_45, z133_46, z133_50, z133_51, z133_52, z133_53, z133_56, z133_57, z133_58, z133_59, z133_60, z133_64, z133_65, z133_67, z133_69, z133_70, z133_73, z133_76, z133_77, z133_78, z133_85, z133_86, z133_90, z133_91, z133_92, z133_95, z133_96, z133_97, z133_100, z133_102, z133_103, z133_107, z133_108, z133_112, z133_113, z133_116, z133_119, z133_120, z133_123, z133_125, z133_126, z133_128, z133_131, z133_134, z133_135, z133_138, z133_139, z133_142, z133_144, z133_145, z133_146, z133_149, z133_152, z133_153, y133_153, z133_154, z133_157, z133_159, z133_160, z133_163, z133_165, pv_catN, pv_cat1, pv_cat2, pv_cat3, pv_catL, Option.toList, List.nil_append, List.cons_append, List.append_nil, pv_rfS, pn_i, pn_r, pn_n, pn_o, true_and, and_true, Nat.le_refl, and_self, true_implies, false_implies, not_true_eq_false, not_false_eq_true, pv_b0, pv_b01, pv_bn0, pv_b1, Bool.false_eq_true, Bool.true_eq_false, Bool.not_false, Bool.not_true, pv_bT, pv_bF, eq_self, G.o]
          rw [z133_87 (by simp [pv_cat, Value.category]) (by decide)]
          refine ⟨G.o, m123 (set := carG x r) G M1.M hR hg ?_⟩
          simp only [z133_0, z133_1, z133_2, z133_5, z133_6, z133_7, z133_10, z133_13, z133_14, z133_15, z133_18, z133_21, z133_22, z133_23, z133_24, z133_27, z133_28, z133_29, z133_32, z133_33, z133_34, z133_37, z133_38, z133_39, z133_42, z133_44, z133_45, z133_46, z133_50, z133_51, z133_52, z133_53, z133_56, z133_57, z133_58, z133_59, z133_60, z133_64, z133_65, z133_67, z133_69, z133_70, z133_73, z133_76, z133_77, z133_78, z133_85, z133_86, z133_90, z133_91, z133_92, z133_95, z133_96, z133_97, z133_100, z133_102, z133_103, z133_107, z133_108, z133_112, z133_113, z133_116, z133_119, z133_120, z133_123, z133_125, z133_126, z133_128, z133_131, z133_134, z133_135, z133_138, z133_139, z133_142, z133_144, z133_145, z133_146, z133_149, z133_152, z133_153, y133_153, z133_154, z133_157, z133_159, z133_160, z133_163, z133_165, pv_catN, pv_cat1, pv_cat2, pv_cat3, pv_catL, Option.toList, List.nil_append, List.cons_append, List.append_nil, pv_rfS, pn_i, pn_r, pn_n, pn_o, true_and, and_true, Nat.le_refl, and_self, true_implies, false_implies, not_true_eq_false, not_false_eq_true, pv_b0, pv_b01, pv_bn0, pv_b1, Bool.false_eq_true, Bool.true_eq_false, Bool.not_false, Bool.not_true, pv_bT, pv_bF, eq_self, G.o, G.r5, G.t104, vp_nI (show f < 5 by omega) (show 5 < 2 ^ 31 by decide), hcf, M1.M.B f hf, nI_add, nI_le' (show wOf (tW (xT x)) (onF (xS x) f (tR (xT x))) (tR (xT x)) + wOf (tW (xT x)) (carG x r) (tR (xT x)) < 2 ^ 31 by omega) (show tB (xT x) f < 2 ^ 31 by omega)]
          refine ⟨fun hb => ?_, fun hb => ?_⟩
          · have hB : carB x r f = true := by
              unfold carB
              rw [ct, decide_eq_true hb, decide_eq_true cf, decide_eq_true (show carN x r f ≤ sL (xS x) by omega)]
              rfl
            rw [hB] at hP
            simp only [if_true] at hP
            rw [z133_104 (by simp [pv_cat, Value.category]) (by decide)]
            refine ⟨G.o, m130 G M1 O fun h2 g1 g2 M2 => ?_⟩
            have loop : ∀ n e (h3 : PvH), e + n = tR (xT x) → (∀ o, o ≠ 109 → h3 o = h2 o) → (∀ j, j < tR (xT x) → h3 109 j = nI (if (decide (j < e) && (carG x r).testBit j) = true then f else sP (xS x) j)) → pv_E (d + 2) 133 P 110 [some (.ref 102), some (.int (nI r)), some (.int (nI f)), some (.int (nI (carG x r))), some (.int (nI (carN x r f))), some (.int (nI e))] [] 0 0 g h3 := by
              intro n
              induction n with
              | zero =>
                intro e h3 he k1 k2
                have he : e = tR (xT x) := he
                subst he
                have eL : h3 102 17 = nI (sL (xS x)) := by rw [k1 102 (by omega)]; exact M2.M.L
                have es : nI (sL (xS x)) - nI (carN x r f) = nI (sL (xS x) - carN x r f) := pk_sub (by omega)
                rw [z133_110]
                simp only [z133_0, z133_1, z133_2, z133_5, z133_6, z133_7, z133_10, z133_13, z133_14, z133_15, z133_18, z133_21, z133_22, z133_23, z133_24, z133_27, z133_28, z133_29, z133_32, z133_33, z133_34, z133_37, z133_38, z133_39, z133_42, z133_44, z133_45, z133_46, z133_47, z133_50, z133_51, z133_52, z133_53, z133_56, z133_57, z133_58, z133_59, z133_60, z133_61, z133_64, z133_65, z133_67, z133_69, z133_70, z133_73, z133_76, z133_77, z133_78, z133_79, z133_82, z133_85, z133_86, z133_87, z133_90, z133_91, z133_92, z133_95, z133_96, z133_97, z133_100, z133_102, z133_103, z133_104, z133_107, z133_108, z133_112, z133_113, z133_116, z133_119, z133_120, z133_123, z133_125, z133_126, z133_128, z133_131, z133_134, z133_135, z133_138, z133_139, z133_142, z133_144, z133_145, z133_146, z133_149, z133_152, z133_153, y133_153, z133_154, z133_157, z133_159, z133_160, z133_163, z133_165, pv_catN, pv_cat1, pv_cat2, pv_cat3, pv_catL, Option.toList, List.nil_append, List.cons_append, List.append_nil, pv_rfS, pn_i, pn_r, pn_n, pn_o, true_and, and_true, Nat.le_refl, and_self, true_implies, false_implies, not_true_eq_false, not_false_eq_true, pv_b0, pv_b01, pv_bn0, pv_b1, Bool.false_eq_true, Bool.true_eq_false, Bool.not_false, Bool.not_true, pv_bT, pv_bF, eq_self, G.o, k1 102 (by omega), show h2 102 6 = nI (tR (xT x)) from M2.M.R, nI_le' (show tR (xT x) < 2 ^ 31 by omega) (show tR (xT x) < 2 ^ 31 by omega), eL, show h2 102 17 = nI (sL (xS x)) from M2.M.L, es]
                refine hP _ ⟨G, cM.now (x := pushX x) M2 (fun o h1 _ _ h4 _ => by rw [st_o (by omega), k1 o h4]) (fun k hk => by rw [st_k (by omega), k1 102 (by omega)]) ?_ ?_ ?_ ?_ ?_ ?_ ?_⟩ (fun o ho => by rw [st_o (by omega), k1 o (by omega), g1 o (by omega) (by omega), f1 o (by omega)]; exact F0 o ho)
                · intro j hj; rw [st_o (by omega), k1 _ (by omega)]; exact M2.M.V j hj
                · intro j hj; rw [st_o (by omega), k1 _ (by omega)]; exact M2.M.K j hj
                · intro j hj
                  have hj : j < tR (xT x) := hj
                  rw [st_o (by omega), k2 j hj]
                  show _ = nI (if (carG x r).testBit j then f else sP (xS x) j)
                  simp [hj]
                · intro j hj; rw [st_o (by omega), k1 _ (by omega)]; exact M2.M.D j hj
                · rw [st_k (by omega), k1 _ (by omega)]; exact M2.M.H
                · rw [st_k (by omega), k1 _ (by omega)]; exact M2.M.E
                · rw [st_at]; rfl
              | succ n ih =>
                intro e h3 he k1 k2
                have heR : e < tR (xT x) := by omega
                have fin : ∀ v : Int32, v = nI (if (carG x r).testBit e = true then f else sP (xS x) e) → pv_E (d + 2) 133 P 110 [some (.ref 102), some (.int (nI r)), some (.int (nI f)), some (.int (nI (carG x r))), some (.int (nI (carN x r f))), some (.int (nI (e + 1)))] [] 0 0 g (pv_st h3 109 e v) := by
                  intro v hv
                  refine ih (e + 1) _ (by omega) (fun o ho => by rw [st_o ho, k1 o ho]) (fun j hj => ?_)
                  by_cases q : j = e
                  · subst q; rw [st_at, hv]; simp
                  · rw [st_k q, k2 j hj, show decide (j < e + 1) = decide (j < e) from decide_eq_decide.mpr (by omega)]
                rw [z133_110]
                simp only [z133_0, z133_1, z133_2, z133_5, z133_6, z133_7, z133_10, z133_13, z133_14, z133_15, z133_18, z133_21, z133_22, z133_23, z133_24, z133_27, z133_28, z133_29, z133_32, z133_33, z133_34, z133_37, z133_38, z133_39, z133_42, z133_44, z133_45, z133_46, z133_47, z133_50, z133_51, z133_52, z133_53, z133_56, z133_57, z133_58, z133_59, z133_60, z133_61, z133_64, z133_65, z133_67, z133_69, z133_70, z133_73, z133_76, z133_77, z133_78, z133_79, z133_82, z133_85, z133_86, z133_87, z133_90, z133_91, z133_92, z133_95, z133_96, z133_97, z133_100, z133_102, z133_103, z133_104, z133_107, z133_108, z133_112, z133_113, z133_116, z133_119, z133_120, z133_123, z133_125, z133_126, z133_128, z133_131, z133_134, z133_135, z133_138, z133_139, z133_142, z133_144, z133_145, z133_146, z133_149, z133_152, z133_153, y133_153, z133_154, z133_157, z133_159, z133_160, z133_163, z133_165, pv_catN, pv_cat1, pv_cat2, pv_cat3, pv_catL, Option.toList, List.nil_append, List.cons_append, List.append_nil, pv_rfS, pn_i, pn_r, pn_n, pn_o, true_and, and_true, Nat.le_refl, and_self, true_implies, false_implies, not_true_eq_false, not_false_eq_true, pv_b0, pv_b01, pv_bn0, pv_b1, Bool.false_eq_true, Bool.true_eq_false, Bool.not_false, Bool.not_true, pv_bT, pv_bF, eq_self, G.o, k1 102 (by omega), show h2 102 6 = nI (tR (xT x)) from M2.M.R, nI_le' (show tR (xT x) < 2 ^ 31 by omega) (show e < 2 ^ 31 by omega), show (tR (xT x) ≤ e) = False from eq_false (by omega), G.r11, G.t109, vp_nI (show e < 8 by omega) (show 8 < 2 ^ 31 by decide), nI_clamp (show e < 2 ^ 31 by omega), m101 (show carG x r < 2 ^ 31 by omega) (show e < 32 by omega), nI_1]
                refine br (fun c => ?_) (fun c => ?_)
                · refine fin _ ?_
                  rw [k2 e heR, c]
                  simp
                · exact fin _ (by rw [c]; rfl)
            simp only [z133_107, z133_108, pv_catN, pv_cat1, pv_cat2, pv_cat3, pv_catL, Option.toList, List.nil_append, List.cons_append, List.append_nil, pv_rfS, pn_i, pn_r, pn_n, pn_o, true_and, and_true, Nat.le_refl, and_self, true_implies, false_implies, not_true_eq_false, not_false_eq_true, pv_b0, pv_b01, pv_bn0, pv_b1, Bool.false_eq_true, Bool.true_eq_false, Bool.not_false, Bool.not_true, pv_bT, pv_bF, eq_self]
            exact loop (tR (xT x)) 0 h2 (Nat.zero_add _) (fun _ _ => rfl) (fun j hj => by rw [show h2 109 j = nI (sP (xS x) j) from M2.M.P j hj]; simp)
          · exact bad1 (by unfold carB; rw [decide_eq_false hb]; simp)
      · exact bad0 (by unfold carB; rw [decide_eq_false cf]; simp)
