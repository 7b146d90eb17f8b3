/-! decade -/
def dSet (s : SS) (R : Nat) : Nat := onF s (sH s) R
def dmp (s : SS) (R r : Nat) : Bool := !((sD s ||| dSet s R).testBit r) && decide (sP s r = sH s + 1) && !decide (sK s r = 1) && decide (0 < sV s r)
def decS (s : SS) (R : Nat) : SS := (sP s, fun r => if dmp s R r then sV s r - 1 else sV s r, sK s, sD s ||| dSet s R, sH s + 1, sE s, sE s)
def decI (s : SS) (R i : Nat) : SS := (sP s, fun r => if (decide (r < i) && dmp s R r) = true then sV s r - 1 else sV s r, sK s, sD s ||| dSet s R, sH s + 1, sE s, sL s)
theorem dSet_lt {s : SS} {R : Nat} (hR : R ≤ 8) : dSet s R < 256 := p8 (mk_lt _ _) hR
theorem dOr_lt {s : SS} {R : Nat} (hD : sD s < 256) (hR : R ≤ 8) : sD s ||| dSet s R < 256 := Nat.or_lt_two_pow (n := 8) hD (dSet_lt hR)
theorem decI_stay {s : SS} {R i r : Nat} (h : r ≠ i ∨ dmp s R r = false) : sV (decI s R (i + 1)) r = sV (decI s R i) r := by
  show (if (decide (r < i + 1) && dmp s R r) = true then _ else _) = (if (decide (r < i) && dmp s R r) = true then _ else _)
  rcases h with h | h
  · rw [show decide (r < i + 1) = decide (r < i) from decide_eq_decide.mpr (by omega)]
  · rw [h]; simp
set_option maxHeartbeats 1000000 in
theorem m49 {d : Nat} {P : PvP} {g : PvG} {h : PvH} {o : Nat} {t : ST} {s : SS} (G : gS g o) (S : cS h o (tR t) s) (O : okS t s) (hR : tR t ≤ 8) (hF : tF t ≤ 5) (hw : sH s < tF t) (hP : ∀ h' : PvH, (∀ a, (a < o ∨ o + 3 < a) → h' a = h a) → cS h' o (tR t) (decS s (tR t)) → P (some (.int (nI (dSet s (tR t))))) g h') : pv_run (d + 4) 49 [.ref o, .int (nI (tR t))] g h P := by
  have hD : sD s < 256 := p8 O.2.1 hR
  have hE := O.2.2.2.1
  have hLE := O.2.2.2.2.1
  have hs := dSet_lt (s := s) hR
  have ho := dOr_lt hD hR
  have loop : ∀ n i (h1 : PvH), i + n = tR t → (∀ a, (a < o ∨ o + 3 < a) → h1 a = h a) → cS h1 o (tR t) (decI s (tR t) i) → pv_E (d + 3) 49 P 32 [some (.ref o), some (.int (nI (tR t))), some (.int (nI (dSet s (tR t)))), some (.int (nI i))] [] 0 0 g h1 := by
    intro n
    induction n with
    | zero =>
      intro i h1 hi f1 S1
      have hi : i = tR t := hi
      subst hi
      rw [z49_32]
      simp only [z49_0, z49_1, z49_2, z49_5, z49_6, z49_9, z49_10, z49_11, y49_11, z49_12, z49_15, z49_16, z49_17, z49_20, z49_21, y49_21, z49_22, z49_25, z49_26, z49_27, z49_30, z49_31, z49_33, z49_34, z49_37, z49_38, z49_39, z49_42, z49_45, z49_46, z49_49, z49_50, z49_51, z49_52, z49_55, z49_58, z49_59, z49_62, z49_63, z49_64, z49_65, z49_68, z49_69, z49_72, z49_73, z49_74, z49_77, z49_78, z49_81, z49_82, z49_83, z49_84, z49_85, z49_86, z49_87, z49_90, z49_93, z49_94, z49_95, z49_98, z49_101, z49_102, pv_catN, pv_cat1, pv_cat2, pv_cat3, pv_catL, Option.toList, List.nil_append, List.cons_append, List.append_nil, pv_rfS, pn_i, pn_r, pn_n, pn_o, true_and, and_true, Nat.le_refl, and_self, true_implies, false_implies, not_true_eq_false, not_false_eq_true, pv_b0, pv_b01, pv_bn0, pv_b1, Bool.false_eq_true, Bool.true_eq_false, Bool.not_false, Bool.not_true, pv_bT, pv_bF, eq_self, G.1, nI_le' (show tR t < 2 ^ 31 by omega) (show tR t < 2 ^ 31 by omega), show h1 o 5 = nI (sE s) from S1.2.2.2.2.2.1]
      refine hP _ (fun a ha => by rw [st_o (by omega), f1 a ha]) ?_
      obtain ⟨s1, s2, s3, s4, s5, s6, s7⟩ := S1
      refine ⟨fun r hr => ?_, fun r hr => ?_, fun r hr => ?_, ?_, ?_, ?_, ?_⟩
      · rw [st_o (by omega)]; exact s1 r hr
      · rw [st_o (by omega), s2 r hr]
        show nI (if (decide (r < tR t) && dmp s (tR t) r) = true then _ else _) = nI (if dmp s (tR t) r = true then _ else _)
        simp [hr]
      · rw [st_o (by omega)]; exact s3 r hr
      · rw [st_k (by omega)]; exact s4
      · rw [st_k (by omega)]; exact s5
      · rw [st_k (by omega)]; exact s6
      · rw [st_at]; rfl
    | succ n ih =>
      intro i h1 hi f1 S1
      have hiR : i < tR t := by omega
      have hq := O.1 i hiR
      have skip : dmp s (tR t) i = false → pv_E (d + 3) 49 P 32 [some (.ref o), some (.int (nI (tR t))), some (.int (nI (dSet s (tR t)))), some (.int (nI (i + 1)))] [] 0 0 g h1 := fun c => by
        refine ih (i + 1) h1 (by omega) f1 ?_
        obtain ⟨s1, s2, s3, s4, s5, s6, s7⟩ := S1
        refine ⟨s1, fun r hr => ?_, s3, s4, s5, s6, s7⟩
        rw [decI_stay (by by_cases e : r = i; right; rw [e]; exact c; left; exact e)]
        exact s2 r hr
      have e1 : sV (decI s (tR t) i) i = sV s i := by
        show (if (decide (i < i) && dmp s (tR t) i) = true then _ else _) = _
        simp
      have take : dmp s (tR t) i = true → pv_E (d + 3) 49 P 32 [some (.ref o), some (.int (nI (tR t))), some (.int (nI (dSet s (tR t)))), some (.int (nI (i + 1)))] [] 0 0 g (pv_st h1 (o + 2) i (nI (sV s i) - 1)) := fun c => by
        have hv : 0 < sV s i := by
          unfold dmp at c
          simp at c
          exact c.2
        refine ih (i + 1) _ (by omega) (fun a ha => by rw [st_o (by omega), f1 a ha]) ?_
        obtain ⟨s1, s2, s3, s4, s5, s6, s7⟩ := S1
        refine ⟨fun r hr => ?_, fun r hr => ?_, fun r hr => ?_, ?_, ?_, ?_, ?_⟩
        · rw [st_o (by omega)]; exact s1 r hr
        · by_cases e : r = i
          · subst e
            rw [st_at, show nI (sV s r) - 1 = nI (sV s r - 1) from pk_sub (b := 1) hv]
            show _ = nI (if (decide (r < r + 1) && dmp s (tR t) r) = true then _ else _)
            simp [c]
          · rw [st_k e, decI_stay (Or.inl e)]
            exact s2 r hr
        · rw [st_o (by omega)]; exact s3 r hr
        · rw [st_o (by omega)]; exact s4
        · rw [st_o (by omega)]; exact s5
        · rw [st_o (by omega)]; exact s6
        · rw [st_o (by omega)]; exact s7
      have hk1 : (nI (sK s i) = 1) = (sK s i = 1) := nI_eq' (b := 1) (by omega) (by decide)
      have hv0 : (nI (sV s i) ≤ 0) = (sV s i ≤ 0) := nI_le' (b := 0) (by omega) (by decide)
      rw [z49_32]
      simp only [z49_0, z49_1, z49_2, z49_5, z49_6, z49_9, z49_10, z49_11, y49_11, z49_12, z49_15, z49_16, z49_17, z49_20, z49_21, y49_21, z49_22, z49_25, z49_26, z49_27, z49_30, z49_31, z49_33, z49_34, z49_37, z49_38, z49_39, z49_42, z49_45, z49_46, z49_49, z49_50, z49_51, z49_52, z49_55, z49_58, z49_59, z49_62, z49_63, z49_64, z49_65, z49_68, z49_69, z49_72, z49_73, z49_74, z49_77, z49_78, z49_81, z49_82, z49_83, z49_84, z49_85, z49_86, z49_87, z49_90, z49_93, z49_94, z49_95, z49_98, z49_101, z49_102, pv_catN, pv_cat1, pv_cat2, pv_cat3, pv_catL, Option.toList, List.nil_append, List.cons_append, List.append_nil, pv_rfS, pn_i, pn_r, pn_n, pn_o, true_and, and_true, Nat.le_refl, and_self, true_implies, false_implies, not_true_eq_false, not_false_eq_true, pv_b0, pv_b01, pv_bn0, pv_b1, Bool.false_eq_true, Bool.true_eq_false, Bool.not_false, Bool.not_true, pv_bT, pv_bF, eq_self, nI_le' (show tR t < 2 ^ 31 by omega) (show i < 2 ^ 31 by omega), show (tR t ≤ i) = False from eq_false (by omega), m42 G S1 ho (show i < 32 by omega), G.1, G.2.1, G.2.2.1, G.2.2.2.1, G.2.2.2.2.1, G.2.2.2.2.2.1, G.2.2.2.2.2.2, vp_nI (show i < 8 by omega) (show 8 < 2 ^ 31 by decide), nI_clamp (show i < 2 ^ 31 by omega), show h1 (o + 1) i = nI (sP s i) from S1.1 i hiR, show h1 (o + 2) i = nI (sV s i) by rw [S1.2.1 i hiR, e1], show h1 (o + 3) i = nI (sK s i) from S1.2.2.1 i hiR, show h1 o 4 = nI (sH s + 1) from S1.2.2.2.2.1, nI_eq' (show sP s i < 2 ^ 31 by omega) (show sH s + 1 < 2 ^ 31 by omega), hk1, hv0, nI_1]
      have eth : th (decI s (tR t) i) i = !((sD s ||| dSet s (tR t)).testBit i) := rfl
      rw [eth]
      refine br (fun c => ?_) (fun c => ⟨fun c1 => ?_, fun c1 => ⟨fun c2 => ?_, fun c2 => ⟨fun c3 => ?_, fun c3 => ?_⟩⟩⟩)
      · exact skip (by unfold dmp; rw [c]; rfl)
      · exact skip (by unfold dmp; rw [decide_eq_false c1]; simp)
      · exact skip (by unfold dmp; rw [decide_eq_true c2]; simp)
      · exact skip (by unfold dmp; rw [decide_eq_false (show ¬ 0 < sV s i by omega)]; simp)
      · have c1 := Classical.not_not.mp c1
        exact take (by unfold dmp; rw [c, decide_eq_true c1, decide_eq_false c2, decide_eq_true (show 0 < sV s i by omega)]; rfl)
  have hH : sH s ≤ 5 := by omega
  simp only [e49, z49_0, z49_1, z49_2, z49_5, z49_9, z49_10, z49_11, y49_11, z49_12, z49_15, z49_16, z49_17, z49_20, z49_21, y49_21, z49_22, z49_25, z49_26, z49_27, z49_30, z49_31, z49_33, z49_34, z49_37, z49_38, z49_39, z49_42, z49_45, z49_46, z49_49, z49_50, z49_51, z49_52, z49_55, z49_58, z49_59, z49_62, z49_63, z49_64, z49_65, z49_68, z49_69, z49_72, z49_73, z49_74, z49_77, z49_78, z49_81, z49_82, z49_83, z49_84, z49_85, z49_86, z49_87, z49_90, z49_93, z49_94, z49_95, z49_98, z49_101, z49_102, pv_catN, pv_cat1, pv_cat2, pv_cat3, pv_catL, Option.toList, List.nil_append, List.cons_append, List.append_nil, pv_rfS, pn_i, pn_r, pn_n, pn_o, true_and, and_true, Nat.le_refl, and_self, true_implies, false_implies, not_true_eq_false, not_false_eq_true, pv_b0, pv_b01, pv_bn0, pv_b1, Bool.false_eq_true, Bool.true_eq_false, Bool.not_false, Bool.not_true, pv_bT, pv_bF, eq_self, G.1, S.2.2.2.2.1]
  rw [z49_6 (by simp [pv_cat, Value.category]) (by decide)]
  refine ⟨G.1, m43 G S hD hR (by omega) (fun r hr => by have := (O.1 r hr).1; omega) ?_⟩
  simp only [z49_0, z49_1, z49_2, z49_5, z49_9, z49_10, z49_11, y49_11, z49_12, z49_15, z49_16, z49_17, z49_20, z49_21, y49_21, z49_22, z49_25, z49_26, z49_27, z49_30, z49_31, z49_33, z49_34, z49_37, z49_38, z49_39, z49_42, z49_45, z49_46, z49_49, z49_50, z49_51, z49_52, z49_55, z49_58, z49_59, z49_62, z49_63, z49_64, z49_65, z49_68, z49_69, z49_72, z49_73, z49_74, z49_77, z49_78, z49_81, z49_82, z49_83, z49_84, z49_85, z49_86, z49_87, z49_90, z49_93, z49_94, z49_95, z49_98, z49_101, z49_102, pv_catN, pv_cat1, pv_cat2, pv_cat3, pv_catL, Option.toList, List.nil_append, List.cons_append, List.append_nil, pv_rfS, pn_i, pn_r, pn_n, pn_o, true_and, and_true, Nat.le_refl, and_self, true_implies, false_implies, not_true_eq_false, not_false_eq_true, pv_b0, pv_b01, pv_bn0, pv_b1, Bool.false_eq_true, Bool.true_eq_false, Bool.not_false, Bool.not_true, pv_bT, pv_bF, eq_self, G.1, S.2.2.2.1, fa_or, show pv_st h o 3 (nI (sD s ||| onF s (sH s) (tR t))) o 4 = nI (sH s) by (rw [st_k (by omega)]; exact S.2.2.2.2.1), nI_1]
  refine loop (tR t) 0 _ (Nat.zero_add _) (fun a ha => by rw [st_o (by omega), st_o (by omega)]) ?_
  obtain ⟨s1, s2, s3, s4, s5, s6, s7⟩ := S
  refine ⟨fun r hr => ?_, fun r hr => ?_, fun r hr => ?_, ?_, ?_, ?_, ?_⟩
  · rw [st_o (by omega), st_o (by omega)]; exact s1 r hr
  · rw [st_o (by omega), st_o (by omega), s2 r hr]
    show _ = nI (if (decide (r < 0) && dmp s (tR t) r) = true then sV s r - 1 else sV s r)
    simp
  · rw [st_o (by omega), st_o (by omega)]; exact s3 r hr
  · rw [st_k (by omega), st_at]; rfl
  · rw [st_at]; rfl
  · rw [st_k (by omega), st_k (by omega)]; exact s6
  · rw [st_k (by omega), st_k (by omega)]; exact s7
def decA (x : SX) : Int32 := if sH (xS x) < tF (xT x) then nI (dSet (xS x) (tR (xT x))) else -3
def decX (x : SX) : SX := if sH (xS x) < tF (xT x) then setNow (pushX x) (decS (xS x) (tR (xT x))) else x
theorem oC70 {x : SX} (O : okX x) : OpC 5 70 [] x (.int (decA x)) (decX x) := by
  intro d P g h ⟨rt, tt, q, G, C⟩ hP
  have hF := O.F
  have hR := O.R
  have hH := O.S.2.2.1
  unfold decA decX at hP
  simp only [e70, z70_0, z70_1, z70_4, z70_7, z70_8, z70_11, z70_14, z70_17, z70_19, z70_20, z70_21, z70_24, z70_25, z70_31, z70_32, z70_35, z70_36, z70_39, z70_45, pv_catN, pv_cat1, pv_cat2, pv_cat3, pv_catL, Option.toList, List.nil_append, List.cons_append, List.append_nil, pv_rfS, pn_i, pn_r, pn_n, pn_o, true_and, and_true, Nat.le_refl, and_self, true_implies, false_implies, not_true_eq_false, not_false_eq_true, pv_b0, pv_b01, pv_bn0, pv_b1, Bool.false_eq_true, Bool.true_eq_false, Bool.not_false, Bool.not_true, pv_bT, pv_bF, eq_self, G.o0, G.r0_4, G.r0_3, G.r0_6, G.S20.1, G.Tr.1, C.S.2.2.2.2.1, C.T.1, nI_lt' (show sH (xS x) < 2 ^ 31 by omega) (show tF (xT x) < 2 ^ 31 by omega)]
  refine ⟨fun c => ?_, fun c => ?_⟩
  · rw [if_pos c, if_pos c] at hP
    rw [z70_28 (by simp [pv_cat, Value.category]) (by decide)]
    refine ⟨G.o25, m1 G C O fun g1 h1 q1 G1 F1 f1 C1 => ?_⟩
    simp only [z70_31, z70_32, z70_35, z70_36, z70_39, pv_catN, pv_cat1, pv_cat2, pv_cat3, pv_catL, Option.toList, List.nil_append, List.cons_append, List.append_nil, pv_rfS, pn_i, pn_r, pn_n, pn_o, true_and, and_true, Nat.le_refl, and_self, true_implies, false_implies, not_true_eq_false, not_false_eq_true, pv_b0, pv_b01, pv_bn0, pv_b1, Bool.false_eq_true, Bool.true_eq_false, Bool.not_false, Bool.not_true, pv_bT, pv_bF, eq_self, G1.o0, G1.r0_4, G1.r0_3, G1.Tr.1, C1.T.2.2.1]
    rw [z70_42 (by simp [pv_cat, Value.category]) (by decide)]
    refine ⟨G1.S20.1, m49 (t := xT x) (s := xS x) G1.S20 C1.S O.S hR hF c fun h2 f2 S2 => ?_⟩
    simp only [z70_0, z70_1, z70_4, z70_7, z70_8, z70_11, z70_14, z70_17, z70_19, z70_20, z70_21, z70_24, z70_25, z70_28, z70_31, z70_32, z70_35, z70_36, z70_39, z70_42, z70_45, pv_catN, pv_cat1, pv_cat2, pv_cat3, pv_catL, Option.toList, List.nil_append, List.cons_append, List.append_nil, pv_rfS, pn_i, pn_r, pn_n, pn_o, true_and, and_true, Nat.le_refl, and_self, true_implies, false_implies, not_true_eq_false, not_false_eq_true, pv_b0, pv_b01, pv_bn0, pv_b1, Bool.false_eq_true, Bool.true_eq_false, Bool.not_false, Bool.not_true, pv_bT, pv_bF, eq_self]
    exact hP g1 h2 ⟨rt, tt, q1, G1, cC.now (x := pushX x) G1 C1 O.push (fun o h1 h2 h3 h4 => f2 o (by omega)) S2⟩ F1 (fun o ho => by rw [f2 o (by omega), f1 o (by omega)])
  · rw [if_neg c, if_neg c] at hP
    exact hP g h ⟨rt, tt, q, G, C⟩ FG.rf FC.rf
set_option maxHeartbeats 1000000 in
theorem oM135 {x : SX} (O : okX x) : OpM 3 135 [] x (.int (decA x)) (decX x) := by
  intro d P g h ⟨G, M0⟩ hP
  have M := M0.t0
  have hF := O.F
  have hR := O.R
  have hH := O.S.2.2.1
  have hD := O.D
  have hs := dSet_lt (s := xS x) hR
  unfold decA decX at hP
  simp only [e135, z135_0, z135_1, z135_2, z135_5, z135_6, z135_9, z135_10, z135_13, z135_16, z135_18, z135_19, z135_23, z135_24, z135_25, z135_31, z135_32, z135_33, y135_33, z135_34, z135_37, z135_38, z135_39, z135_42, z135_43, z135_45, z135_46, z135_49, z135_52, z135_53, z135_56, z135_57, z135_58, z135_61, z135_62, z135_63, z135_66, z135_67, z135_68, z135_71, z135_74, z135_75, z135_78, z135_79, z135_80, z135_81, z135_84, z135_85, z135_86, z135_89, z135_90, z135_93, z135_94, z135_95, z135_96, z135_99, z135_102, z135_103, z135_106, z135_107, z135_108, z135_109, z135_112, z135_113, z135_116, z135_117, z135_118, z135_121, z135_122, z135_125, z135_126, z135_127, z135_128, z135_131, z135_132, z135_133, z135_134, z135_135, z135_138, z135_139, z135_142, z135_143, z135_144, z135_145, z135_148, z135_151, z135_152, z135_153, z135_156, z135_159, z135_160, pv_catN, pv_cat1, pv_cat2, pv_cat3, pv_catL, Option.toList, List.nil_append, List.cons_append, List.append_nil, pv_rfS, pn_i, pn_r, pn_n, pn_o, true_and, and_true, Nat.le_refl, and_self, true_implies, false_implies, not_true_eq_false, not_false_eq_true, pv_b0, pv_b01, pv_bn0, pv_b1, Bool.false_eq_true, Bool.true_eq_false, Bool.not_false, Bool.not_true, pv_bT, pv_bF, eq_self, G.o, M.M.H, M.M.F, nI_eq' (show sH (xS x) < 2 ^ 31 by omega) (show tF (xT x) < 2 ^ 31 by omega)]
  generalize hh : pv_st h 102 0 0 = h0 at M
  have F0 : FM h h0 := hh ▸ FM.rf.st (by omega)
  refine ⟨fun c => ?_, fun c => ?_⟩
  rotate_left
  · rw [if_neg (by omega), if_neg (by omega)] at hP
    exact hP h0 ⟨G, M⟩ F0
  · have c : sH (xS x) < tF (xT x) := by omega
    rw [if_pos c, if_pos c] at hP
    rw [z135_20 (by simp [pv_cat, Value.category]) (by decide)]
    refine ⟨G.o, m130 G M O fun h1 f1 f2 M1 => ?_⟩
    have hp : ∀ r, r < tR (xT x) → sP (xS x) r < 2 ^ 31 := O.p31
    simp only [z135_0, z135_1, z135_2, z135_5, z135_6, z135_9, z135_10, z135_13, z135_16, z135_18, z135_19, z135_23, z135_24, z135_25, z135_31, z135_32, z135_33, y135_33, z135_34, z135_37, z135_38, z135_39, z135_42, z135_43, z135_45, z135_46, z135_49, z135_52, z135_53, z135_56, z135_57, z135_58, z135_61, z135_62, z135_63, z135_66, z135_67, z135_68, z135_71, z135_74, z135_75, z135_78, z135_79, z135_80, z135_81, z135_84, z135_85, z135_86, z135_89, z135_90, z135_93, z135_94, z135_95, z135_96, z135_99, z135_102, z135_103, z135_106, z135_107, z135_108, z135_109, z135_112, z135_113, z135_116, z135_117, z135_118, z135_121, z135_122, z135_125, z135_126, z135_127, z135_128, z135_131, z135_132, z135_133, z135_134, z135_135, z135_138, z135_139, z135_142, z135_143, z135_144, z135_145, z135_148, z135_151, z135_152, z135_153, z135_156, z135_159, z135_160, pv_catN, pv_cat1, pv_cat2, pv_cat3, pv_catL, Option.toList, List.nil_append, List.cons_append, List.append_nil, pv_rfS, pn_i, pn_r, pn_n, pn_o, true_and, and_true, Nat.le_refl, and_self, true_implies, false_implies, not_true_eq_false, not_false_eq_true, pv_b0, pv_b01, pv_bn0, pv_b1, Bool.false_eq_true, Bool.true_eq_false, Bool.not_false, Bool.not_true, pv_bT, pv_bF, eq_self, G.o, show h1 102 15 = nI (sH (xS x)) from M1.M.H]
    rw [z135_28 (by simp [pv_cat, Value.category]) (by decide)]
    refine ⟨G.o, m122 (s := xS x) G M1.M hR (by omega) hp ?_⟩
    simp only [z135_0, z135_1, z135_2, z135_5, z135_6, z135_9, z135_10, z135_13, z135_16, z135_18, z135_19, z135_23, z135_24, z135_25, z135_31, z135_32, z135_33, y135_33, z135_34, z135_37, z135_38, z135_39, z135_42, z135_43, z135_45, z135_46, z135_49, z135_52, z135_53, z135_56, z135_57, z135_58, z135_61, z135_62, z135_63, z135_66, z135_67, z135_68, z135_71, z135_74, z135_75, z135_78, z135_79, z135_80, z135_81, z135_84, z135_85, z135_86, z135_89, z135_90, z135_93, z135_94, z135_95, z135_96, z135_99, z135_102, z135_103, z135_106, z135_107, z135_108, z135_109, z135_112, z135_113, z135_116, z135_117, z135_118, z135_121, z135_122, z135_125, z135_126, z135_127, z135_128, z135_131, z135_132, z135_133, z135_134, z135_135, z135_138, z135_139, z135_142, z135_143, z135_144, z135_145, z135_148, z135_151, z135_152, z135_153, z135_156, z135_159, z135_160, pv_catN, pv_cat1, pv_cat2, pv_cat3, pv_catL, Option.toList, List.nil_append, List.cons_append, List.append_nil, pv_rfS, pn_i, pn_r, pn_n, pn_o, true_and, and_true, Nat.le_refl, and_self, true_implies, false_implies, not_true_eq_false, not_false_eq_true, pv_b0, pv_b01, pv_bn0, pv_b1, Bool.false_eq_true, Bool.true_eq_false, Bool.not_false, Bool.not_true, pv_bT, pv_bF, eq_self, G.o, show h1 102 15 = nI (sH (xS x)) from M1.M.H, nI_1]
    have loop : ∀ n i (w : Option Value) (h2 : PvH), i + n = tR (xT x) → (∀ o, o ≠ 102 → o ≠ 106 → o ≠ 110 → h2 o = h1 o) → (∀ k, k ≠ 15 → h2 102 k = h1 102 k) → h2 102 15 = nI (sH (xS x) + 1) → (∀ r, r < tR (xT x) → h2 106 r = nI (sV (decI (xS x) (tR (xT x)) i) r)) → (∀ r, r < tR (xT x) → h2 110 r = pv_b (if r < i then (sD (xS x) ||| dSet (xS x) (tR (xT x))).testBit r else (sD (xS x)).testBit r)) → pv_E (d + 2) 135 P 44 [some (.ref 102), some (.int (nI (dSet (xS x) (tR (xT x))))), some (.int (nI i)), w] [] 0 0 g h2 := by
      intro n
      induction n with
      | zero =>
        intro i w h2 hi k1 k2 k3 k4 k5
        have hi : i = tR (xT x) := hi
        subst hi
        rw [z135_44]
        simp only [z135_0, z135_1, z135_2, z135_5, z135_6, z135_9, z135_10, z135_13, z135_16, z135_18, z135_19, z135_20, z135_23, z135_24, z135_25, z135_28, z135_31, z135_32, z135_33, y135_33, z135_34, z135_37, z135_38, z135_39, z135_42, z135_43, z135_45, z135_46, z135_49, z135_52, z135_53, z135_56, z135_57, z135_58, z135_61, z135_62, z135_63, z135_66, z135_67, z135_68, z135_71, z135_74, z135_75, z135_78, z135_79, z135_80, z135_81, z135_84, z135_85, z135_86, z135_89, z135_90, z135_93, z135_94, z135_95, z135_96, z135_99, z135_102, z135_103, z135_106, z135_107, z135_108, z135_109, z135_112, z135_113, z135_116, z135_117, z135_118, z135_121, z135_122, z135_125, z135_126, z135_127, z135_128, z135_131, z135_132, z135_133, z135_134, z135_135, z135_138, z135_139, z135_142, z135_143, z135_144, z135_145, z135_148, z135_151, z135_152, z135_153, z135_156, z135_159, z135_160, pv_catN, pv_cat1, pv_cat2, pv_cat3, pv_catL, Option.toList, List.nil_append, List.cons_append, List.append_nil, pv_rfS, pn_i, pn_r, pn_n, pn_o, true_and, and_true, Nat.le_refl, and_self, true_implies, false_implies, not_true_eq_false, not_false_eq_true, pv_b0, pv_b01, pv_bn0, pv_b1, Bool.false_eq_true, Bool.true_eq_false, Bool.not_false, Bool.not_true, pv_bT, pv_bF, eq_self, G.o, k2 6 (by omega), show h1 102 6 = nI (tR (xT x)) from M1.M.R, nI_le' (show tR (xT x) < 2 ^ 31 by omega) (show tR (xT x) < 2 ^ 31 by omega), k2 16 (by omega), show h1 102 16 = nI (sE (xS x)) from M1.M.E]
        refine hP _ ⟨G, cM.now (x := pushX x) M1 (fun o h1 h2 _ _ h5 => by rw [st_o (by omega), k1 o (by omega) h2 h5]) (fun k hk => by rw [st_k (by omega), k2 k (by omega)]) ?_ ?_ ?_ ?_ ?_ ?_ ?_⟩ (fun o ho => by rw [st_o (by omega), k1 o (by omega) (by omega) (by omega), f1 o (by omega) (by omega)]; exact F0 o ho)
        · intro j hj
          have hj : j < tR (xT x) := hj
          rw [st_o (by omega), k4 j hj]
          show nI (if (decide (j < tR (xT x)) && dmp (xS x) (tR (xT x)) j) = true then _ else _) = nI (if dmp (xS x) (tR (xT x)) j = true then _ else _)
          simp [hj]
        · intro j hj; rw [st_o (by omega), k1 _ (by omega) (by omega) (by omega)]; exact M1.M.K j hj
        · intro j hj; rw [st_o (by omega), k1 _ (by omega) (by omega) (by omega)]; exact M1.M.P j hj
        · intro j hj
          have hj : j < tR (xT x) := hj
          rw [st_o (by omega), k5 j hj, if_pos hj]
          rfl
        · rw [st_k (by omega), k3]; rfl
        · rw [st_k (by omega), k2 _ (by omega)]; exact M1.M.E
        · rw [st_at]; rfl
      | succ n ih =>
        intro i w h2 hi k1 k2 k3 k4 k5
        have hiR : i < tR (xT x) := by omega
        have hq := O.S.1 i hiR
        have e110 : h2 110 i = pv_b ((sD (xS x)).testBit i) := by rw [k5 i hiR, if_neg (by omega)]
        have e106 : h2 106 i = nI (sV (xS x) i) := by
          rw [k4 i hiR]
          show nI (if (decide (i < i) && dmp (xS x) (tR (xT x)) i) = true then _ else _) = _
          simp
        have e109 : h2 109 i = nI (sP (xS x) i) := by rw [k1 _ (by omega) (by omega) (by omega)]; exact M1.M.P i hiR
        have e108 : h2 108 i = nI (sK (xS x) i) := by rw [k1 _ (by omega) (by omega) (by omega)]; exact M1.M.K i hiR
        have tail : ∀ b : Bool, b = (sD (xS x) ||| dSet (xS x) (tR (xT x))).testBit i → pv_E (d + 2) 135 P 79 [some (.ref 102), some (.int (nI (dSet (xS x) (tR (xT x))))), some (.int (nI i)), w] [.int (pv_b b), .int (nI i), .ref 110] 0 0 g h2 := by
          intro b hb
          have fin : ∀ (w' : Option Value) (v : Int32), v = nI (if dmp (xS x) (tR (xT x)) i then sV (xS x) i - 1 else sV (xS x) i) → pv_E (d + 2) 135 P 44 [some (.ref 102), some (.int (nI (dSet (xS x) (tR (xT x))))), some (.int (nI (i + 1))), w'] [] 0 0 g (pv_st (pv_st h2 110 i (pv_b b)) 106 i v) := by
            intro w' v hv
            refine ih (i + 1) w' _ (by omega) (fun o z1 z2 z3 => by rw [st_o (by omega), st_o (by omega), k1 o z1 z2 z3]) (fun k hk => by rw [st_o (by omega), st_o (by omega), k2 k hk]) (by rw [st_o (by omega), st_o (by omega), k3]) (fun r hr => ?_) (fun r hr => ?_)
            · by_cases e : r = i
              · subst e
                rw [st_at, hv]
                show _ = nI (if (decide (r < r + 1) && dmp (xS x) (tR (xT x)) r) = true then _ else _)
                simp
              · rw [st_k e, st_o (by omega), k4 r hr, decI_stay (Or.inl e)]
            · rw [st_o (by omega)]
              by_cases e : r = i
              · subst e
                rw [st_at, hb, if_pos (by omega)]
              · rw [st_k e, k5 r hr]
                by_cases z : r < i
                · rw [if_pos z, if_pos (by omega)]
                · rw [if_neg z, if_neg (by omega)]
          have no : ∀ w', dmp (xS x) (tR (xT x)) i = false → pv_E (d + 2) 135 P 44 [some (.ref 102), some (.int (nI (dSet (xS x) (tR (xT x))))), some (.int (nI (i + 1))), w'] [] 0 0 g (pv_st (pv_st h2 110 i (pv_b b)) 106 i (nI (sV (xS x) i))) := fun w' c => fin w' _ (by rw [c]; rfl)
          have hk1 : (nI (sK (xS x) i) = 1) = (sK (xS x) i = 1) := nI_eq' (b := 1) (by omega) (by decide)
          have hv0 : (nI (sV (xS x) i) ≤ 0) = (sV (xS x) i ≤ 0) := nI_le' (b := 0) (by omega) (by decide)
          have q0 : (nI (sV (xS x) i) - 0) = nI (sV (xS x) i) := Int32.sub_zero _
          have q1 : ∀ v k, pv_st h2 110 i v 102 k = h2 102 k := fun v k => by rw [st_o (by omega)]
          have q2 : ∀ v k, pv_st h2 110 i v 106 k = h2 106 k := fun v k => by rw [st_o (by omega)]
          have q3 : ∀ v k, pv_st h2 110 i v 108 k = h2 108 k := fun v k => by rw [st_o (by omega)]
          have q4 : ∀ v k, pv_st h2 110 i v 109 k = h2 109 k := fun v k => by rw [st_o (by omega)]
          simp only [z135_0, z135_1, z135_2, z135_5, z135_6, z135_9, z135_10, z135_13, z135_16, z135_18, z135_19, z135_20, z135_23, z135_24, z135_25, z135_28, z135_31, z135_32, z135_33, y135_33, z135_34, z135_37, z135_38, z135_39, z135_42, z135_43, z135_45, z135_46, z135_49, z135_52, z135_53, z135_56, z135_57, z135_58, z135_61, z135_62, z135_63, z135_66, z135_67, z135_68, z135_71, z135_74, z135_75, z135_78, z135_79, z135_80, z135_81, z135_84, z135_85, z135_86, z135_89, z135_90, z135_93, z135_94, z135_95, z135_96, z135_99, z135_102, z135_103, z135_106, z135_107, z135_108, z135_109, z135_112, z135_113, z135_116, z135_117, z135_118, z135_121, z135_122, z135_125, z135_126, z135_127, z135_128, z135_131, z135_132, z135_133, z135_134, z135_135, z135_138, z135_139, z135_142, z135_143, z135_144, z135_145, z135_148, z135_151, z135_152, z135_153, z135_156, z135_159, z135_160, pv_catN, pv_cat1, pv_cat2, pv_cat3, pv_catL, Option.toList, List.nil_append, List.cons_append, List.append_nil, pv_rfS, pn_i, pn_r, pn_n, pn_o, true_and, and_true, Nat.le_refl, and_self, true_implies, false_implies, not_true_eq_false, not_false_eq_true, pv_b0, pv_b01, pv_bn0, pv_b1, Bool.false_eq_true, Bool.true_eq_false, Bool.not_false, Bool.not_true, pv_bT, pv_bF, eq_self, G.o, G.r12, G.t110, G.r11, G.t109, G.r10, G.t108, G.r8, G.t106, st_at, q1, q2, q3, q4, vp_nI (show i < 8 by omega) (show 8 < 2 ^ 31 by decide), nI_clamp (show i < 2 ^ 31 by omega), e109, e108, e106, k3, nI_eq' (show sP (xS x) i < 2 ^ 31 by omega) (show sH (xS x) + 1 < 2 ^ 31 by omega), hk1, hv0, q0, show ((1 : Int32) = 0) = False from eq_false (by decide), nI_1]
          refine ⟨by cases b <;> simp, fun c => ?_, fun c => ⟨fun c1 => ?_, fun c1 => ⟨fun c2 => ?_, fun c2 => ⟨fun c3 => ?_, fun c3 => ?_⟩⟩⟩⟩
          · have c : b = true := by simpa using c
            exact no _ (by unfold dmp; rw [← hb, c]; rfl)
          · exact no _ (by unfold dmp; rw [decide_eq_false c1]; simp)
          · exact no _ (by unfold dmp; rw [decide_eq_true c2]; simp)
          · exact no _ (by unfold dmp; rw [decide_eq_false (show ¬ 0 < sV (xS x) i by omega)]; simp)
          · have c : b = false := by simpa using c
            refine fin _ _ ?_
            have cd : dmp (xS x) (tR (xT x)) i = true := by unfold dmp; rw [← hb, c, decide_eq_true (Classical.not_not.mp c1), decide_eq_false c2, decide_eq_true (show 0 < sV (xS x) i by omega)]; rfl
            rw [cd]
            exact pk_sub (b := 1) (by omega)
        have tor : (sD (xS x) ||| dSet (xS x) (tR (xT x))).testBit i = ((sD (xS x)).testBit i || (dSet (xS x) (tR (xT x))).testBit i) := Nat.testBit_or ..
        rw [z135_44]
        simp only [z135_0, z135_1, z135_2, z135_5, z135_6, z135_9, z135_10, z135_13, z135_16, z135_18, z135_19, z135_20, z135_23, z135_24, z135_25, z135_28, z135_31, z135_32, z135_33, y135_33, z135_34, z135_37, z135_38, z135_39, z135_42, z135_43, z135_45, z135_46, z135_49, z135_52, z135_53, z135_56, z135_57, z135_58, z135_61, z135_62, z135_63, z135_66, z135_67, z135_68, z135_71, z135_74, z135_75, z135_78, z135_80, z135_81, z135_84, z135_85, z135_86, z135_89, z135_90, z135_93, z135_94, z135_95, z135_96, z135_99, z135_102, z135_103, z135_106, z135_107, z135_108, z135_109, z135_112, z135_113, z135_116, z135_117, z135_118, z135_121, z135_122, z135_125, z135_126, z135_127, z135_128, z135_131, z135_132, z135_133, z135_134, z135_135, z135_138, z135_139, z135_142, z135_143, z135_144, z135_145, z135_148, z135_151, z135_152, z135_153, z135_156, z135_159, z135_160, pv_catN, pv_cat1, pv_cat2, pv_cat3, pv_catL, Option.toList, List.nil_append, List.cons_append, List.append_nil, pv_rfS, pn_i, pn_r, pn_n, pn_o, true_and, and_true, Nat.le_refl, and_self, true_implies, false_implies, not_true_eq_false, not_false_eq_true, pv_b0, pv_b01, pv_bn0, pv_b1, Bool.false_eq_true, Bool.true_eq_false, Bool.not_false, Bool.not_true, pv_bT, pv_bF, eq_self, G.o, k2 6 (by omega), show h1 102 6 = nI (tR (xT x)) from M1.M.R, nI_le' (show tR (xT x) < 2 ^ 31 by omega) (show i < 2 ^ 31 by omega), show (tR (xT x) ≤ i) = False from eq_false (by omega), G.r12, G.t110, vp_nI (show i < 8 by omega) (show 8 < 2 ^ 31 by decide), nI_clamp (show i < 2 ^ 31 by omega), e110, m101 (show dSet (xS x) (tR (xT x)) < 2 ^ 31 by omega) (show i < 32 by omega)]
        refine ⟨fun c => ?_, fun c => ⟨fun c1 => ?_, fun c1 => ?_⟩⟩
        · have c : (sD (xS x)).testBit i = true := by simpa using c
          exact tail true (by rw [tor, c]; rfl)
        · have c : (sD (xS x)).testBit i = false := by simpa using c
          exact tail false (by rw [tor, c, c1]; rfl)
        · have c1 : (dSet (xS x) (tR (xT x))).testBit i = true := by simpa using c1
          exact tail true (by rw [tor, c1]; simp)
    refine loop (tR (xT x)) 0 _ _ (Nat.zero_add _) (fun o z1 z2 z3 => st_o z1) (fun k hk => st_k hk) st_at (fun r hr => ?_) (fun r hr => ?_)
    · rw [st_o (by omega)]
      rw [show h1 106 r = nI (sV (xS x) r) from M1.M.V r hr]
      show _ = nI (if (decide (r < 0) && dmp (xS x) (tR (xT x)) r) = true then sV (xS x) r - 1 else sV (xS x) r)
      simp
    · rw [st_o (by omega), if_neg (by omega)]
      exact M1.M.D r hr
