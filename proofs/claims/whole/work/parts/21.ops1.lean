/-! OPERATIONS: wipe, about, floor, record, cites, effort, index -/
def wipeX (x : SX) : SX := (xT x, xS x, xI x, xA x, xLo x, xHi x, 0, xX x)
theorem oC60 {x : SX} (O : okX x) : OpC 1 60 [] x (.int (nI (xN x))) (wipeX x) := by
  intro d P g h ⟨rt, tt, q, G, C⟩ hP
  simp only [e60, z60_0, z60_1, z60_4, z60_5, z60_6, z60_7, z60_10, z60_11, pv_catN, pv_cat1, pv_cat2, pv_cat3, pv_catL, Option.toList, List.nil_append, List.cons_append, List.append_nil, pv_rfS, pn_i, pn_r, pn_n, pn_o, true_and, and_true, Nat.le_refl, and_self, true_implies, false_implies, not_true_eq_false, not_false_eq_true, pv_b0, pv_b01, pv_bn0, pv_b1, Bool.false_eq_true, Bool.true_eq_false, Bool.not_false, Bool.not_true, pv_bT, pv_bF, eq_self, G.o0, C.N]
  refine hP _ _ ⟨rt, tt, q, G, ?_⟩ FG.rf (FC.rf.st (by omega))
  have C1 : cC (pv_st h 0 1 0) rt q (wipeX x) := by
    obtain ⟨T, S, X, n, A, lo, hi, N, Y, z, zl⟩ := C
    have G4 := G.rt
    refine ⟨T.fr (fun a h1 h2 => st_o (by omega)), S.fr (st_o (by omega)) (st_o (by omega)) (st_o (by omega)) (st_o (by omega)), X, n, ?_, lo, hi, ?_, fun i hi => absurd hi (Nat.not_lt_zero i), z, ?_⟩
    · intro i s hs
      have hi10 : i < 10 := Nat.lt_of_lt_of_le (List.getElem?_eq_some_iff.mp hs).1 O.2.2.2.1
      have q4 := G.q4 hi10
      exact (A i s hs).fr (st_o (by omega)) (st_o (by omega)) (st_o (by omega)) (st_o (by omega))
    · exact st_at
    · intro e f he hf
      rw [st_o (by omega)]; exact zl e f he hf
  exact C1
theorem oM105 {x : SX} : OpM 1 105 [] x (.int (nI (xN x))) (wipeX x) := by
  intro d P g h ⟨G, M⟩ hP
  have M1 := M.t0
  simp only [e105, z105_0, z105_1, z105_2, z105_5, z105_6, z105_9, z105_10, z105_11, z105_12, z105_15, z105_16, pv_catN, pv_cat1, pv_cat2, pv_cat3, pv_catL, Option.toList, List.nil_append, List.cons_append, List.append_nil, pv_rfS, pn_i, pn_r, pn_n, pn_o, true_and, and_true, Nat.le_refl, and_self, true_implies, false_implies, not_true_eq_false, not_false_eq_true, pv_b0, pv_b01, pv_bn0, pv_b1, Bool.false_eq_true, Bool.true_eq_false, Bool.not_false, Bool.not_true, pv_bT, pv_bF, eq_self, G.o, M1.N]
  refine hP _ ⟨G, ?_⟩ ((FM.rf.st (by omega)).st (by omega))
  obtain ⟨m, n, A, lo, hi, N, Y⟩ := M1
  exact ⟨m, n, A, lo, hi, st_at, fun i hi => absurd hi (Nat.not_lt_zero i)⟩
def aboutX (x : SX) (k : Nat) : Nat := match k with
  | 0 => tF (xT x)
  | 1 => tR (xT x)
  | 2 => pc (sD (xS x))
  | 3 => sH (xS x)
  | 4 => sE (xS x)
  | 5 => sL (xS x)
  | 6 => (xA x).length
  | 7 => kept (xS x) (tR (xT x))
  | 8 => steps (xT x) (xS x)
  | _ => xN x
theorem okX.hw {x : SX} (O : okX x) : ∀ r, r < tR (xT x) → th (xS x) r = true → sH (xS x) ≤ sP (xS x) r := fun r hr ht => by
  have := O.S.2.2.2.2.2.1 r hr
  unfold th at ht
  rcases Nat.lt_or_ge (sP (xS x) r) (sH (xS x)) with z | z
  · have := this.mpr z
    simp [this] at ht
  · exact z
theorem okX.K3 {x : SX} (O : okX x) : ∀ r, r < tR (xT x) → sK (xS x) r ≤ 3 := fun r hr => (O.S.1 r hr).2.2
theorem oC63 {x : SX} (O : okX x) (a : Int32) : OpC 4 63 [.int a] x (.int (if inr a 10 then nI (aboutX x a.toNatClampNeg) else -2)) x := by
  intro d P g h ⟨rt, tt, q, G, C⟩ hP
  have hP := hP g h ⟨rt, tt, q, G, C⟩ FG.rf FC.rf
  simp only [e63, z63_0]
  refine ts63_1 (fun c => ?_) (fun k hk c => ?_)
  · have e : inr a 10 = false := by
      unfold inr
      exact decide_eq_false (by omega)
    simp only [z63_0, z63_56, z63_57, z63_60, z63_63, z63_64, z63_65, z63_68, z63_71, z63_72, z63_73, z63_76, z63_79, z63_82, z63_83, z63_84, z63_87, z63_90, z63_91, z63_92, z63_95, z63_98, z63_99, z63_100, z63_103, z63_106, z63_107, z63_108, z63_111, z63_114, z63_115, z63_116, z63_119, z63_120, z63_123, z63_126, z63_129, z63_130, z63_131, z63_134, z63_135, z63_138, z63_141, z63_142, z63_143, z63_146, z63_147, z63_149, pv_catN, pv_cat1, pv_cat2, pv_cat3, pv_catL, Option.toList, List.nil_append, List.cons_append, List.append_nil, pv_rfS, pn_i, pn_r, pn_n, pn_o, true_and, and_true, Nat.le_refl, and_self, true_implies, false_implies, not_true_eq_false, not_false_eq_true, pv_b0, pv_b01, pv_bn0, pv_b1, Bool.false_eq_true, Bool.true_eq_false, Bool.not_false, Bool.not_true, pv_bT, pv_bF, eq_self]
    simpa [e] using hP
  · have e : inr a 10 = true := by
      unfold inr
      exact decide_eq_true (by omega)
    obtain ⟨j, hj, rfl⟩ := inr_t e
    rw [nI_toInt (by omega)] at c
    have hjk : j = k := by omega
    subst hjk
    rw [if_pos e, nI_clamp (by omega)] at hP
    have hR := O.R
    have hD := O.D
    rcases (by omega : j = 0 ∨ j = 1 ∨ j = 2 ∨ j = 3 ∨ j = 4 ∨ j = 5 ∨ j = 6 ∨ j = 7 ∨ j = 8 ∨ j = 9) with rfl | rfl | rfl | rfl | rfl | rfl | rfl | rfl | rfl | rfl
    · show pv_E _ 63 P 56 _ _ _ _ _ _
      simp only [z63_0, z63_56, z63_57, z63_60, z63_63, z63_64, z63_65, z63_68, z63_71, z63_72, z63_73, z63_76, z63_79, z63_82, z63_83, z63_84, z63_87, z63_90, z63_91, z63_92, z63_95, z63_98, z63_99, z63_100, z63_103, z63_106, z63_107, z63_108, z63_111, z63_114, z63_115, z63_116, z63_119, z63_120, z63_123, z63_126, z63_129, z63_130, z63_131, z63_134, z63_135, z63_138, z63_141, z63_142, z63_143, z63_146, z63_147, z63_149, pv_catN, pv_cat1, pv_cat2, pv_cat3, pv_catL, Option.toList, List.nil_append, List.cons_append, List.append_nil, pv_rfS, pn_i, pn_r, pn_n, pn_o, true_and, and_true, Nat.le_refl, and_self, true_implies, false_implies, not_true_eq_false, not_false_eq_true, pv_b0, pv_b01, pv_bn0, pv_b1, Bool.false_eq_true, Bool.true_eq_false, Bool.not_false, Bool.not_true, pv_bT, pv_bF, eq_self, G.o0, G.r0_3, G.Tr.1, C.T.1]; exact hP
    · show pv_E _ 63 P 64 _ _ _ _ _ _
      simp only [z63_0, z63_56, z63_57, z63_60, z63_63, z63_64, z63_65, z63_68, z63_71, z63_72, z63_73, z63_76, z63_79, z63_82, z63_83, z63_84, z63_87, z63_90, z63_91, z63_92, z63_95, z63_98, z63_99, z63_100, z63_103, z63_106, z63_107, z63_108, z63_111, z63_114, z63_115, z63_116, z63_119, z63_120, z63_123, z63_126, z63_129, z63_130, z63_131, z63_134, z63_135, z63_138, z63_141, z63_142, z63_143, z63_146, z63_147, z63_149, pv_catN, pv_cat1, pv_cat2, pv_cat3, pv_catL, Option.toList, List.nil_append, List.cons_append, List.append_nil, pv_rfS, pn_i, pn_r, pn_n, pn_o, true_and, and_true, Nat.le_refl, and_self, true_implies, false_implies, not_true_eq_false, not_false_eq_true, pv_b0, pv_b01, pv_bn0, pv_b1, Bool.false_eq_true, Bool.true_eq_false, Bool.not_false, Bool.not_true, pv_bT, pv_bF, eq_self, G.o0, G.r0_3, G.Tr.1, C.T.2.2.1]; exact hP
    · show pv_E _ 63 P 72 _ _ _ _ _ _
      simp only [z63_0, z63_56, z63_57, z63_60, z63_63, z63_64, z63_65, z63_68, z63_71, z63_72, z63_73, z63_76, z63_79, z63_82, z63_83, z63_84, z63_87, z63_90, z63_91, z63_92, z63_95, z63_98, z63_99, z63_100, z63_103, z63_106, z63_107, z63_108, z63_111, z63_114, z63_115, z63_116, z63_119, z63_120, z63_123, z63_126, z63_129, z63_130, z63_131, z63_134, z63_135, z63_138, z63_141, z63_142, z63_143, z63_146, z63_147, z63_149, pv_catN, pv_cat1, pv_cat2, pv_cat3, pv_catL, Option.toList, List.nil_append, List.cons_append, List.append_nil, pv_rfS, pn_i, pn_r, pn_n, pn_o, true_and, and_true, Nat.le_refl, and_self, true_implies, false_implies, not_true_eq_false, not_false_eq_true, pv_b0, pv_b01, pv_bn0, pv_b1, Bool.false_eq_true, Bool.true_eq_false, Bool.not_false, Bool.not_true, pv_bT, pv_bF, eq_self, G.o0, G.r0_4, G.S20.1, C.S.2.2.2.1, m165 hD]; exact hP
    · show pv_E _ 63 P 83 _ _ _ _ _ _
      simp only [z63_0, z63_56, z63_57, z63_60, z63_63, z63_64, z63_65, z63_68, z63_71, z63_72, z63_73, z63_76, z63_79, z63_82, z63_83, z63_84, z63_87, z63_90, z63_91, z63_92, z63_95, z63_98, z63_99, z63_100, z63_103, z63_106, z63_107, z63_108, z63_111, z63_114, z63_115, z63_116, z63_119, z63_120, z63_123, z63_126, z63_129, z63_130, z63_131, z63_134, z63_135, z63_138, z63_141, z63_142, z63_143, z63_146, z63_147, z63_149, pv_catN, pv_cat1, pv_cat2, pv_cat3, pv_catL, Option.toList, List.nil_append, List.cons_append, List.append_nil, pv_rfS, pn_i, pn_r, pn_n, pn_o, true_and, and_true, Nat.le_refl, and_self, true_implies, false_implies, not_true_eq_false, not_false_eq_true, pv_b0, pv_b01, pv_bn0, pv_b1, Bool.false_eq_true, Bool.true_eq_false, Bool.not_false, Bool.not_true, pv_bT, pv_bF, eq_self, G.o0, G.r0_4, G.S20.1, C.S.2.2.2.2.1]; exact hP
    · show pv_E _ 63 P 91 _ _ _ _ _ _
      simp only [z63_0, z63_56, z63_57, z63_60, z63_63, z63_64, z63_65, z63_68, z63_71, z63_72, z63_73, z63_76, z63_79, z63_82, z63_83, z63_84, z63_87, z63_90, z63_91, z63_92, z63_95, z63_98, z63_99, z63_100, z63_103, z63_106, z63_107, z63_108, z63_111, z63_114, z63_115, z63_116, z63_119, z63_120, z63_123, z63_126, z63_129, z63_130, z63_131, z63_134, z63_135, z63_138, z63_141, z63_142, z63_143, z63_146, z63_147, z63_149, pv_catN, pv_cat1, pv_cat2, pv_cat3, pv_catL, Option.toList, List.nil_append, List.cons_append, List.append_nil, pv_rfS, pn_i, pn_r, pn_n, pn_o, true_and, and_true, Nat.le_refl, and_self, true_implies, false_implies, not_true_eq_false, not_false_eq_true, pv_b0, pv_b01, pv_bn0, pv_b1, Bool.false_eq_true, Bool.true_eq_false, Bool.not_false, Bool.not_true, pv_bT, pv_bF, eq_self, G.o0, G.r0_4, G.S20.1, C.S.2.2.2.2.2.1]; exact hP
    · show pv_E _ 63 P 99 _ _ _ _ _ _
      simp only [z63_0, z63_56, z63_57, z63_60, z63_63, z63_64, z63_65, z63_68, z63_71, z63_72, z63_73, z63_76, z63_79, z63_82, z63_83, z63_84, z63_87, z63_90, z63_91, z63_92, z63_95, z63_98, z63_99, z63_100, z63_103, z63_106, z63_107, z63_108, z63_111, z63_114, z63_115, z63_116, z63_119, z63_120, z63_123, z63_126, z63_129, z63_130, z63_131, z63_134, z63_135, z63_138, z63_141, z63_142, z63_143, z63_146, z63_147, z63_149, pv_catN, pv_cat1, pv_cat2, pv_cat3, pv_catL, Option.toList, List.nil_append, List.cons_append, List.append_nil, pv_rfS, pn_i, pn_r, pn_n, pn_o, true_and, and_true, Nat.le_refl, and_self, true_implies, false_implies, not_true_eq_false, not_false_eq_true, pv_b0, pv_b01, pv_bn0, pv_b1, Bool.false_eq_true, Bool.true_eq_false, Bool.not_false, Bool.not_true, pv_bT, pv_bF, eq_self, G.o0, G.r0_4, G.S20.1, C.S.2.2.2.2.2.2]; exact hP
    · show pv_E _ 63 P 107 _ _ _ _ _ _
      simp only [z63_0, z63_56, z63_57, z63_60, z63_63, z63_64, z63_65, z63_68, z63_71, z63_72, z63_73, z63_76, z63_79, z63_82, z63_83, z63_84, z63_87, z63_90, z63_91, z63_92, z63_95, z63_98, z63_99, z63_100, z63_103, z63_106, z63_107, z63_108, z63_111, z63_114, z63_115, z63_116, z63_119, z63_120, z63_123, z63_126, z63_129, z63_130, z63_131, z63_134, z63_135, z63_138, z63_141, z63_142, z63_143, z63_146, z63_147, z63_149, pv_catN, pv_cat1, pv_cat2, pv_cat3, pv_catL, Option.toList, List.nil_append, List.cons_append, List.append_nil, pv_rfS, pn_i, pn_r, pn_n, pn_o, true_and, and_true, Nat.le_refl, and_self, true_implies, false_implies, not_true_eq_false, not_false_eq_true, pv_b0, pv_b01, pv_bn0, pv_b1, Bool.false_eq_true, Bool.true_eq_false, Bool.not_false, Bool.not_true, pv_bT, pv_bF, eq_self, G.o0, G.r0_6, G.o25, C.n]; exact hP
    · show pv_E _ 63 P 115 _ _ _ _ _ _
      simp only [z63_0, z63_56, z63_57, z63_60, z63_63, z63_64, z63_65, z63_68, z63_71, z63_72, z63_73, z63_76, z63_79, z63_82, z63_83, z63_84, z63_87, z63_90, z63_91, z63_92, z63_95, z63_98, z63_99, z63_100, z63_103, z63_106, z63_107, z63_108, z63_111, z63_114, z63_115, z63_116, z63_119, z63_120, z63_123, z63_126, z63_129, z63_130, z63_131, z63_134, z63_135, z63_138, z63_141, z63_142, z63_143, z63_146, z63_147, z63_149, pv_catN, pv_cat1, pv_cat2, pv_cat3, pv_catL, Option.toList, List.nil_append, List.cons_append, List.append_nil, pv_rfS, pn_i, pn_r, pn_n, pn_o, true_and, and_true, Nat.le_refl, and_self, true_implies, false_implies, not_true_eq_false, not_false_eq_true, pv_b0, pv_b01, pv_bn0, pv_b1, Bool.false_eq_true, Bool.true_eq_false, Bool.not_false, Bool.not_true, pv_bT, pv_bF, eq_self, G.o0, G.r0_3, G.r0_4, G.Tr.1, G.S20.1, C.T.2.2.1]
      refine m44 G.S20 C.S hD hR O.K3 ?_
      simp only [z63_0, z63_56, z63_57, z63_60, z63_63, z63_64, z63_65, z63_68, z63_71, z63_72, z63_73, z63_76, z63_79, z63_82, z63_83, z63_84, z63_87, z63_90, z63_91, z63_92, z63_95, z63_98, z63_99, z63_100, z63_103, z63_106, z63_107, z63_108, z63_111, z63_114, z63_115, z63_116, z63_119, z63_120, z63_123, z63_126, z63_129, z63_130, z63_131, z63_134, z63_135, z63_138, z63_141, z63_142, z63_143, z63_146, z63_147, z63_149, pv_catN, pv_cat1, pv_cat2, pv_cat3, pv_catL, Option.toList, List.nil_append, List.cons_append, List.append_nil, pv_rfS, pn_i, pn_r, pn_n, pn_o, true_and, and_true, Nat.le_refl, and_self, true_implies, false_implies, not_true_eq_false, not_false_eq_true, pv_b0, pv_b01, pv_bn0, pv_b1, Bool.false_eq_true, Bool.true_eq_false, Bool.not_false, Bool.not_true, pv_bT, pv_bF, eq_self]; exact hP
    · show pv_E _ 63 P 130 _ _ _ _ _ _
      simp only [z63_0, z63_56, z63_57, z63_60, z63_63, z63_64, z63_65, z63_68, z63_71, z63_72, z63_73, z63_76, z63_79, z63_82, z63_83, z63_84, z63_87, z63_90, z63_91, z63_92, z63_95, z63_98, z63_99, z63_100, z63_103, z63_106, z63_107, z63_108, z63_111, z63_114, z63_115, z63_116, z63_119, z63_120, z63_123, z63_126, z63_129, z63_130, z63_131, z63_134, z63_135, z63_138, z63_141, z63_142, z63_143, z63_146, z63_147, z63_149, pv_catN, pv_cat1, pv_cat2, pv_cat3, pv_catL, Option.toList, List.nil_append, List.cons_append, List.append_nil, pv_rfS, pn_i, pn_r, pn_n, pn_o, true_and, and_true, Nat.le_refl, and_self, true_implies, false_implies, not_true_eq_false, not_false_eq_true, pv_b0, pv_b01, pv_bn0, pv_b1, Bool.false_eq_true, Bool.true_eq_false, Bool.not_false, Bool.not_true, pv_bT, pv_bF, eq_self, G.o0, G.r0_3, G.r0_4, G.S20.1]
      refine m45 G.S20 C.S hD hR G.Tr C.T O.hw ?_
      simp only [z63_0, z63_56, z63_57, z63_60, z63_63, z63_64, z63_65, z63_68, z63_71, z63_72, z63_73, z63_76, z63_79, z63_82, z63_83, z63_84, z63_87, z63_90, z63_91, z63_92, z63_95, z63_98, z63_99, z63_100, z63_103, z63_106, z63_107, z63_108, z63_111, z63_114, z63_115, z63_116, z63_119, z63_120, z63_123, z63_126, z63_129, z63_130, z63_131, z63_134, z63_135, z63_138, z63_141, z63_142, z63_143, z63_146, z63_147, z63_149, pv_catN, pv_cat1, pv_cat2, pv_cat3, pv_catL, Option.toList, List.nil_append, List.cons_append, List.append_nil, pv_rfS, pn_i, pn_r, pn_n, pn_o, true_and, and_true, Nat.le_refl, and_self, true_implies, false_implies, not_true_eq_false, not_false_eq_true, pv_b0, pv_b01, pv_bn0, pv_b1, Bool.false_eq_true, Bool.true_eq_false, Bool.not_false, Bool.not_true, pv_bT, pv_bF, eq_self]; exact hP
    · show pv_E _ 63 P 142 _ _ _ _ _ _
      simp only [z63_0, z63_56, z63_57, z63_60, z63_63, z63_64, z63_65, z63_68, z63_71, z63_72, z63_73, z63_76, z63_79, z63_82, z63_83, z63_84, z63_87, z63_90, z63_91, z63_92, z63_95, z63_98, z63_99, z63_100, z63_103, z63_106, z63_107, z63_108, z63_111, z63_114, z63_115, z63_116, z63_119, z63_120, z63_123, z63_126, z63_129, z63_130, z63_131, z63_134, z63_135, z63_138, z63_141, z63_142, z63_143, z63_146, z63_147, z63_149, pv_catN, pv_cat1, pv_cat2, pv_cat3, pv_catL, Option.toList, List.nil_append, List.cons_append, List.append_nil, pv_rfS, pn_i, pn_r, pn_n, pn_o, true_and, and_true, Nat.le_refl, and_self, true_implies, false_implies, not_true_eq_false, not_false_eq_true, pv_b0, pv_b01, pv_bn0, pv_b1, Bool.false_eq_true, Bool.true_eq_false, Bool.not_false, Bool.not_true, pv_bT, pv_bF, eq_self, G.o0, C.N]; exact hP
theorem many_there {t : ST} {s : SS} (hR : tR t ≤ 8) (hD : sD s < 2 ^ tR t) : pc (mk (th s) (tR t)) + pc (sD s) = tR t := by
  have e : ∀ n, n ≤ 8 → sm (fun r => if (mk (th s) (tR t)).testBit r then 1 else 0) n + sm (fun r => if (sD s).testBit r then 1 else 0) n = min n (tR t) := by
    intro n
    induction n with
    | zero => intro _; simp [sm]
    | succ n ih =>
      intro hn
      have ih := ih (by omega)
      unfold sm
      rw [mk_bit]
      by_cases c : n < tR t
      · unfold th
        cases hb : (sD s).testBit n <;> simp [c] <;> unfold th at ih <;> omega
      · have hb : (sD s).testBit n = false := Nat.testBit_lt_two_pow (Nat.lt_of_lt_of_le hD (Nat.pow_le_pow_right (by decide) (by omega)))
        simp [c, hb]
        omega
  have := e 8 (Nat.le_refl 8)
  unfold pc
  omega
theorem m118 {d : Nat} {P : PvP} {g : PvG} {h : PvH} {s : Nat} (hs : s < 256) (hP : P (some (.int (nI (pc s)))) g h) : pv_run (d + 1) 118 [.int (nI s)] g h P := by
  have loop : ∀ n r, r + n = 8 → pv_E d 118 P 4 [some (.int (nI s)), some (.int (nI (sm (fun r => if s.testBit r then 1 else 0) r))), some (.int (nI r))] [] 0 0 g h := by
    intro n
    induction n with
    | zero =>
      intro r hr
      have hr : r = 8 := hr
      subst hr
      rw [z118_4]
      simp only [z118_0, z118_1, z118_2, z118_3, z118_5, z118_7, z118_10, z118_11, z118_12, z118_13, z118_14, z118_15, z118_16, z118_17, z118_18, z118_21, z118_24, z118_25, pv_catN, pv_cat1, pv_cat2, pv_cat3, pv_catL, Option.toList, List.nil_append, List.cons_append, List.append_nil, pv_rfS, pn_i, pn_r, pn_n, pn_o, true_and, and_true, Nat.le_refl, and_self, true_implies, false_implies, not_true_eq_false, not_false_eq_true, pv_b0, pv_b01, pv_bn0, pv_b1, Bool.false_eq_true, Bool.true_eq_false, Bool.not_false, Bool.not_true, pv_bT, pv_bF, eq_self]
      simp only [show ((8 : Int32) ≤ nI 8) = True from eq_true (by decide), true_implies, not_true_eq_false, false_implies, and_true]
      exact hP
    | succ n ih =>
      intro r hr
      rw [z118_4]
      simp only [z118_0, z118_1, z118_2, z118_3, z118_5, z118_7, z118_10, z118_11, z118_12, z118_13, z118_14, z118_15, z118_16, z118_17, z118_18, z118_21, z118_24, z118_25, pv_catN, pv_cat1, pv_cat2, pv_cat3, pv_catL, Option.toList, List.nil_append, List.cons_append, List.append_nil, pv_rfS, pn_i, pn_r, pn_n, pn_o, true_and, and_true, Nat.le_refl, and_self, true_implies, false_implies, not_true_eq_false, not_false_eq_true, pv_b0, pv_b01, pv_bn0, pv_b1, Bool.false_eq_true, Bool.true_eq_false, Bool.not_false, Bool.not_true, pv_bT, pv_bF, eq_self, show ((8 : Int32) ≤ nI r) = False from eq_false (by rw [show (8 : Int32) = nI 8 from rfl, nI_le' (by decide) (by omega)]; omega), bitN (show s < 2 ^ 31 by omega) (show r < 32 by omega), nI_add, nI_1]
      have := ih (r + 1) (by omega)
      unfold sm at this
      cases hb : s.testBit r <;> simpa [hb] using this
  simp only [e118, z118_0, z118_1, z118_2, z118_3, z118_5, z118_7, z118_10, z118_11, z118_12, z118_13, z118_14, z118_15, z118_16, z118_17, z118_18, z118_21, z118_24, z118_25, pv_catN, pv_cat1, pv_cat2, pv_cat3, pv_catL, Option.toList, List.nil_append, List.cons_append, List.append_nil, pv_rfS, pn_i, pn_r, pn_n, pn_o, true_and, and_true, Nat.le_refl, and_self, true_implies, false_implies, not_true_eq_false, not_false_eq_true, pv_b0, pv_b01, pv_bn0, pv_b1, Bool.false_eq_true, Bool.true_eq_false, Bool.not_false, Bool.not_true, pv_bT, pv_bF, eq_self]
  exact loop 8 0 (Nat.zero_add _)
theorem oM121 {x : SX} (O : okX x) (a : Int32) : OpM 3 121 [.int a] x (.int (if inr a 10 then nI (aboutX x a.toNatClampNeg) else -2)) x := by
  intro d P g h ⟨G, M0⟩ hP
  have M := M0.t0
  have hP := hP _ ⟨G, M⟩ (FM.rf.st (by omega))
  simp only [e121, z121_0, z121_1, z121_2, z121_5, G.o, true_and]
  refine ts121_6 (fun c => ?_) (fun k hk c => ?_)
  · have e : inr a 10 = false := by
      unfold inr
      exact decide_eq_false (by omega)
    simp only [z121_0, z121_1, z121_2, z121_5, z121_60, z121_61, z121_64, z121_65, z121_66, z121_69, z121_70, z121_71, z121_74, z121_75, z121_78, z121_81, z121_82, z121_83, z121_84, z121_87, z121_88, z121_89, z121_92, z121_93, z121_94, z121_97, z121_98, z121_99, z121_102, z121_103, z121_104, z121_107, z121_108, z121_109, z121_112, z121_113, z121_114, z121_117, z121_118, z121_120, pv_catN, pv_cat1, pv_cat2, pv_cat3, pv_catL, Option.toList, List.nil_append, List.cons_append, List.append_nil, pv_rfS, pn_i, pn_r, pn_n, pn_o, true_and, and_true, Nat.le_refl, and_self, true_implies, false_implies, not_true_eq_false, not_false_eq_true, pv_b0, pv_b01, pv_bn0, pv_b1, Bool.false_eq_true, Bool.true_eq_false, Bool.not_false, Bool.not_true, pv_bT, pv_bF, eq_self]
    simpa [e] using hP
  · have e : inr a 10 = true := by
      unfold inr
      exact decide_eq_true (by omega)
    obtain ⟨j, hj, rfl⟩ := inr_t e
    rw [nI_toInt (by omega)] at c
    have hjk : j = k := by omega
    subst hjk
    rw [if_pos e, nI_clamp (by omega)] at hP
    have hR := O.R
    have hD := O.D
    rcases (by omega : j = 0 ∨ j = 1 ∨ j = 2 ∨ j = 3 ∨ j = 4 ∨ j = 5 ∨ j = 6 ∨ j = 7 ∨ j = 8 ∨ j = 9) with rfl | rfl | rfl | rfl | rfl | rfl | rfl | rfl | rfl | rfl
    · show pv_E _ 121 P 60 _ _ _ _ _ _
      simp only [z121_0, z121_1, z121_2, z121_5, z121_60, z121_61, z121_64, z121_65, z121_66, z121_69, z121_70, z121_71, z121_74, z121_75, z121_78, z121_81, z121_82, z121_83, z121_84, z121_87, z121_88, z121_89, z121_92, z121_93, z121_94, z121_97, z121_98, z121_99, z121_102, z121_103, z121_104, z121_107, z121_108, z121_109, z121_112, z121_113, z121_114, z121_117, z121_118, z121_120, pv_catN, pv_cat1, pv_cat2, pv_cat3, pv_catL, Option.toList, List.nil_append, List.cons_append, List.append_nil, pv_rfS, pn_i, pn_r, pn_n, pn_o, true_and, and_true, Nat.le_refl, and_self, true_implies, false_implies, not_true_eq_false, not_false_eq_true, pv_b0, pv_b01, pv_bn0, pv_b1, Bool.false_eq_true, Bool.true_eq_false, Bool.not_false, Bool.not_true, pv_bT, pv_bF, eq_self, G.o, M.M.F]; exact hP
    · show pv_E _ 121 P 65 _ _ _ _ _ _
      simp only [z121_0, z121_1, z121_2, z121_5, z121_60, z121_61, z121_64, z121_65, z121_66, z121_69, z121_70, z121_71, z121_74, z121_75, z121_78, z121_81, z121_82, z121_83, z121_84, z121_87, z121_88, z121_89, z121_92, z121_93, z121_94, z121_97, z121_98, z121_99, z121_102, z121_103, z121_104, z121_107, z121_108, z121_109, z121_112, z121_113, z121_114, z121_117, z121_118, z121_120, pv_catN, pv_cat1, pv_cat2, pv_cat3, pv_catL, Option.toList, List.nil_append, List.cons_append, List.append_nil, pv_rfS, pn_i, pn_r, pn_n, pn_o, true_and, and_true, Nat.le_refl, and_self, true_implies, false_implies, not_true_eq_false, not_false_eq_true, pv_b0, pv_b01, pv_bn0, pv_b1, Bool.false_eq_true, Bool.true_eq_false, Bool.not_false, Bool.not_true, pv_bT, pv_bF, eq_self, G.o, M.M.R]; exact hP
    · show pv_E _ 121 P 70 _ _ _ _ _ _
      simp only [z121_0, z121_1, z121_2, z121_5, z121_60, z121_61, z121_64, z121_65, z121_66, z121_69, z121_70, z121_71, z121_74, z121_75, z121_78, z121_81, z121_82, z121_83, z121_84, z121_87, z121_88, z121_89, z121_92, z121_93, z121_94, z121_97, z121_98, z121_99, z121_102, z121_103, z121_104, z121_107, z121_108, z121_109, z121_112, z121_113, z121_114, z121_117, z121_118, z121_120, pv_catN, pv_cat1, pv_cat2, pv_cat3, pv_catL, Option.toList, List.nil_append, List.cons_append, List.append_nil, pv_rfS, pn_i, pn_r, pn_n, pn_o, true_and, and_true, Nat.le_refl, and_self, true_implies, false_implies, not_true_eq_false, not_false_eq_true, pv_b0, pv_b01, pv_bn0, pv_b1, Bool.false_eq_true, Bool.true_eq_false, Bool.not_false, Bool.not_true, pv_bT, pv_bF, eq_self, G.o, M.M.R]
      refine m117 G M.M hR ?_
      simp only [z121_0, z121_1, z121_2, z121_5, z121_60, z121_61, z121_64, z121_65, z121_66, z121_69, z121_70, z121_71, z121_74, z121_75, z121_78, z121_81, z121_82, z121_83, z121_84, z121_87, z121_88, z121_89, z121_92, z121_93, z121_94, z121_97, z121_98, z121_99, z121_102, z121_103, z121_104, z121_107, z121_108, z121_109, z121_112, z121_113, z121_114, z121_117, z121_118, z121_120, pv_catN, pv_cat1, pv_cat2, pv_cat3, pv_catL, Option.toList, List.nil_append, List.cons_append, List.append_nil, pv_rfS, pn_i, pn_r, pn_n, pn_o, true_and, and_true, Nat.le_refl, and_self, true_implies, false_implies, not_true_eq_false, not_false_eq_true, pv_b0, pv_b01, pv_bn0, pv_b1, Bool.false_eq_true, Bool.true_eq_false, Bool.not_false, Bool.not_true, pv_bT, pv_bF, eq_self]
      have hm := mk_lt (th (xS x)) (tR (xT x))
      refine m118 (p8 hm hR) ?_
      have := many_there (t := xT x) (s := xS x) hR O.S.2.1
      simp only [z121_0, z121_1, z121_2, z121_5, z121_60, z121_61, z121_64, z121_65, z121_66, z121_69, z121_70, z121_71, z121_74, z121_75, z121_78, z121_81, z121_82, z121_83, z121_84, z121_87, z121_88, z121_89, z121_92, z121_93, z121_94, z121_97, z121_98, z121_99, z121_102, z121_103, z121_104, z121_107, z121_108, z121_109, z121_112, z121_113, z121_114, z121_117, z121_118, z121_120, pv_catN, pv_cat1, pv_cat2, pv_cat3, pv_catL, Option.toList, List.nil_append, List.cons_append, List.append_nil, pv_rfS, pn_i, pn_r, pn_n, pn_o, true_and, and_true, Nat.le_refl, and_self, true_implies, false_implies, not_true_eq_false, not_false_eq_true, pv_b0, pv_b01, pv_bn0, pv_b1, Bool.false_eq_true, Bool.true_eq_false, Bool.not_false, Bool.not_true, pv_bT, pv_bF, eq_self, pk_sub (show pc (mk (th (xS x)) (tR (xT x))) ≤ tR (xT x) by omega)]
      rw [show tR (xT x) - pc (mk (th (xS x)) (tR (xT x))) = pc (sD (xS x)) by omega]
      exact hP
    · show pv_E _ 121 P 83 _ _ _ _ _ _
      simp only [z121_0, z121_1, z121_2, z121_5, z121_60, z121_61, z121_64, z121_65, z121_66, z121_69, z121_70, z121_71, z121_74, z121_75, z121_78, z121_81, z121_82, z121_83, z121_84, z121_87, z121_88, z121_89, z121_92, z121_93, z121_94, z121_97, z121_98, z121_99, z121_102, z121_103, z121_104, z121_107, z121_108, z121_109, z121_112, z121_113, z121_114, z121_117, z121_118, z121_120, pv_catN, pv_cat1, pv_cat2, pv_cat3, pv_catL, Option.toList, List.nil_append, List.cons_append, List.append_nil, pv_rfS, pn_i, pn_r, pn_n, pn_o, true_and, and_true, Nat.le_refl, and_self, true_implies, false_implies, not_true_eq_false, not_false_eq_true, pv_b0, pv_b01, pv_bn0, pv_b1, Bool.false_eq_true, Bool.true_eq_false, Bool.not_false, Bool.not_true, pv_bT, pv_bF, eq_self, G.o, M.M.H]; exact hP
    · show pv_E _ 121 P 88 _ _ _ _ _ _
      simp only [z121_0, z121_1, z121_2, z121_5, z121_60, z121_61, z121_64, z121_65, z121_66, z121_69, z121_70, z121_71, z121_74, z121_75, z121_78, z121_81, z121_82, z121_83, z121_84, z121_87, z121_88, z121_89, z121_92, z121_93, z121_94, z121_97, z121_98, z121_99, z121_102, z121_103, z121_104, z121_107, z121_108, z121_109, z121_112, z121_113, z121_114, z121_117, z121_118, z121_120, pv_catN, pv_cat1, pv_cat2, pv_cat3, pv_catL, Option.toList, List.nil_append, List.cons_append, List.append_nil, pv_rfS, pn_i, pn_r, pn_n, pn_o, true_and, and_true, Nat.le_refl, and_self, true_implies, false_implies, not_true_eq_false, not_false_eq_true, pv_b0, pv_b01, pv_bn0, pv_b1, Bool.false_eq_true, Bool.true_eq_false, Bool.not_false, Bool.not_true, pv_bT, pv_bF, eq_self, G.o, M.M.E]; exact hP
    · show pv_E _ 121 P 93 _ _ _ _ _ _
      simp only [z121_0, z121_1, z121_2, z121_5, z121_60, z121_61, z121_64, z121_65, z121_66, z121_69, z121_70, z121_71, z121_74, z121_75, z121_78, z121_81, z121_82, z121_83, z121_84, z121_87, z121_88, z121_89, z121_92, z121_93, z121_94, z121_97, z121_98, z121_99, z121_102, z121_103, z121_104, z121_107, z121_108, z121_109, z121_112, z121_113, z121_114, z121_117, z121_118, z121_120, pv_catN, pv_cat1, pv_cat2, pv_cat3, pv_catL, Option.toList, List.nil_append, List.cons_append, List.append_nil, pv_rfS, pn_i, pn_r, pn_n, pn_o, true_and, and_true, Nat.le_refl, and_self, true_implies, false_implies, not_true_eq_false, not_false_eq_true, pv_b0, pv_b01, pv_bn0, pv_b1, Bool.false_eq_true, Bool.true_eq_false, Bool.not_false, Bool.not_true, pv_bT, pv_bF, eq_self, G.o, M.M.L]; exact hP
    · show pv_E _ 121 P 98 _ _ _ _ _ _
      simp only [z121_0, z121_1, z121_2, z121_5, z121_60, z121_61, z121_64, z121_65, z121_66, z121_69, z121_70, z121_71, z121_74, z121_75, z121_78, z121_81, z121_82, z121_83, z121_84, z121_87, z121_88, z121_89, z121_92, z121_93, z121_94, z121_97, z121_98, z121_99, z121_102, z121_103, z121_104, z121_107, z121_108, z121_109, z121_112, z121_113, z121_114, z121_117, z121_118, z121_120, pv_catN, pv_cat1, pv_cat2, pv_cat3, pv_catL, Option.toList, List.nil_append, List.cons_append, List.append_nil, pv_rfS, pn_i, pn_r, pn_n, pn_o, true_and, and_true, Nat.le_refl, and_self, true_implies, false_implies, not_true_eq_false, not_false_eq_true, pv_b0, pv_b01, pv_bn0, pv_b1, Bool.false_eq_true, Bool.true_eq_false, Bool.not_false, Bool.not_true, pv_bT, pv_bF, eq_self, G.o, M.n]; exact hP
    · show pv_E _ 121 P 103 _ _ _ _ _ _
      simp only [z121_0, z121_1, z121_2, z121_5, z121_60, z121_61, z121_64, z121_65, z121_66, z121_69, z121_70, z121_71, z121_74, z121_75, z121_78, z121_81, z121_82, z121_83, z121_84, z121_87, z121_88, z121_89, z121_92, z121_93, z121_94, z121_97, z121_98, z121_99, z121_102, z121_103, z121_104, z121_107, z121_108, z121_109, z121_112, z121_113, z121_114, z121_117, z121_118, z121_120, pv_catN, pv_cat1, pv_cat2, pv_cat3, pv_catL, Option.toList, List.nil_append, List.cons_append, List.append_nil, pv_rfS, pn_i, pn_r, pn_n, pn_o, true_and, and_true, Nat.le_refl, and_self, true_implies, false_implies, not_true_eq_false, not_false_eq_true, pv_b0, pv_b01, pv_bn0, pv_b1, Bool.false_eq_true, Bool.true_eq_false, Bool.not_false, Bool.not_true, pv_bT, pv_bF, eq_self, G.o]
      refine m119 G M.M hR O.K3 ?_
      simp only [z121_0, z121_1, z121_2, z121_5, z121_60, z121_61, z121_64, z121_65, z121_66, z121_69, z121_70, z121_71, z121_74, z121_75, z121_78, z121_81, z121_82, z121_83, z121_84, z121_87, z121_88, z121_89, z121_92, z121_93, z121_94, z121_97, z121_98, z121_99, z121_102, z121_103, z121_104, z121_107, z121_108, z121_109, z121_112, z121_113, z121_114, z121_117, z121_118, z121_120, pv_catN, pv_cat1, pv_cat2, pv_cat3, pv_catL, Option.toList, List.nil_append, List.cons_append, List.append_nil, pv_rfS, pn_i, pn_r, pn_n, pn_o, true_and, and_true, Nat.le_refl, and_self, true_implies, false_implies, not_true_eq_false, not_false_eq_true, pv_b0, pv_b01, pv_bn0, pv_b1, Bool.false_eq_true, Bool.true_eq_false, Bool.not_false, Bool.not_true, pv_bT, pv_bF, eq_self]; exact hP
    · show pv_E _ 121 P 108 _ _ _ _ _ _
      simp only [z121_0, z121_1, z121_2, z121_5, z121_60, z121_61, z121_64, z121_65, z121_66, z121_69, z121_70, z121_71, z121_74, z121_75, z121_78, z121_81, z121_82, z121_83, z121_84, z121_87, z121_88, z121_89, z121_92, z121_93, z121_94, z121_97, z121_98, z121_99, z121_102, z121_103, z121_104, z121_107, z121_108, z121_109, z121_112, z121_113, z121_114, z121_117, z121_118, z121_120, pv_catN, pv_cat1, pv_cat2, pv_cat3, pv_catL, Option.toList, List.nil_append, List.cons_append, List.append_nil, pv_rfS, pn_i, pn_r, pn_n, pn_o, true_and, and_true, Nat.le_refl, and_self, true_implies, false_implies, not_true_eq_false, not_false_eq_true, pv_b0, pv_b01, pv_bn0, pv_b1, Bool.false_eq_true, Bool.true_eq_false, Bool.not_false, Bool.not_true, pv_bT, pv_bF, eq_self, G.o]
      refine m120 G M.M hR O.hw ?_
      simp only [z121_0, z121_1, z121_2, z121_5, z121_60, z121_61, z121_64, z121_65, z121_66, z121_69, z121_70, z121_71, z121_74, z121_75, z121_78, z121_81, z121_82, z121_83, z121_84, z121_87, z121_88, z121_89, z121_92, z121_93, z121_94, z121_97, z121_98, z121_99, z121_102, z121_103, z121_104, z121_107, z121_108, z121_109, z121_112, z121_113, z121_114, z121_117, z121_118, z121_120, pv_catN, pv_cat1, pv_cat2, pv_cat3, pv_catL, Option.toList, List.nil_append, List.cons_append, List.append_nil, pv_rfS, pn_i, pn_r, pn_n, pn_o, true_and, and_true, Nat.le_refl, and_self, true_implies, false_implies, not_true_eq_false, not_false_eq_true, pv_b0, pv_b01, pv_bn0, pv_b1, Bool.false_eq_true, Bool.true_eq_false, Bool.not_false, Bool.not_true, pv_bT, pv_bF, eq_self]; exact hP
    · show pv_E _ 121 P 113 _ _ _ _ _ _
      simp only [z121_0, z121_1, z121_2, z121_5, z121_60, z121_61, z121_64, z121_65, z121_66, z121_69, z121_70, z121_71, z121_74, z121_75, z121_78, z121_81, z121_82, z121_83, z121_84, z121_87, z121_88, z121_89, z121_92, z121_93, z121_94, z121_97, z121_98, z121_99, z121_102, z121_103, z121_104, z121_107, z121_108, z121_109, z121_112, z121_113, z121_114, z121_117, z121_118, z121_120, pv_catN, pv_cat1, pv_cat2, pv_cat3, pv_catL, Option.toList, List.nil_append, List.cons_append, List.append_nil, pv_rfS, pn_i, pn_r, pn_n, pn_o, true_and, and_true, Nat.le_refl, and_self, true_implies, false_implies, not_true_eq_false, not_false_eq_true, pv_b0, pv_b01, pv_bn0, pv_b1, Bool.false_eq_true, Bool.true_eq_false, Bool.not_false, Bool.not_true, pv_bT, pv_bF, eq_self, G.o, M.N]; exact hP
