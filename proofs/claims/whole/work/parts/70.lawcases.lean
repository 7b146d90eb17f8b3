/-! THE LAW'S CASES, by program (wip/whole/mk69.py) -/
theorem RM.fr {g g' : PvG} {h h' : PvH} {x : SX} (M : RM g h x) (F : FG g g') (C : FC h h') : RM g' h' x := by
  obtain ⟨G, D⟩ := M
  refine ⟨?_, D.fr (fun o a b => C o (by omega)) (fun k _ => by rw [C 102 (by omega)])⟩
  unfold gM at G ⊢
  simp only [F.1, F.2 102 _ (Nat.le_refl 102)]
  exact G
theorem RC.fr {g : PvG} {h h' : PvH} {x : SX} (R : RC g h x) (O : okX x) (F : FM h h') : RC g h' x := by
  obtain ⟨rt, tt, q, G, C⟩ := R
  have hr := G.rt
  exact ⟨rt, tt, q, G, C.fr G O (fun o ho => F o (by omega)) ⟨by rw [F 0 (by omega)], by rw [F 25 (by omega)], by rw [F 67 (by omega)], by rw [F 73 (by omega)]⟩⟩
theorem RC.o {g : PvG} {h : PvH} {x : SX} (R : RC g h x) : (pv_tg g 0).1 = 9 := by
  obtain ⟨rt, tt, q, G, C⟩ := R
  exact G.o0
theorem lawC {K id : Nat} {As : List Value} {x x' : SX} {v : Value} (hc : OpC K id As x v x') (hK : K ≤ 60) {P : PvP} {g : PvG} {h : PvH} (R : RC g h x) (M : RM g h x) (H : ∀ g1 h1, RC g1 h1 x' → RM g1 h1 x → P (some v) g1 h1) : pv_run 60 id (.ref 0 :: As) g h P := by
  have := hc (60 - K) P g h R (fun g1 h1 R1 F1 F2 => H g1 h1 R1 (M.fr F1 F2))
  rwa [Nat.sub_add_cancel hK] at this
theorem lawM {K id : Nat} {As : List Value} {x x' : SX} {v : Value} (hc : OpM K id As x v x') (hK : K ≤ 60) (O' : okX x') {P : PvP} {g : PvG} {h : PvH} (R : RC g h x') (M : RM g h x) (H : ∀ h1, RC g h1 x' → RM g h1 x' → P (some v) g h1) : pv_run 60 id (.ref 102 :: As) g h P := by
  have := hc (60 - K) P g h M (fun h1 M1 F1 => H h1 (R.fr O' F1) M1)
  rwa [Nat.sub_add_cancel hK] at this
theorem lcS (a : Int64) : (lg_cmp a a = 0) = True := eq_true ((lg_cmp_eq a a).mpr rfl)
theorem w_case0 {L : Nat} {xs : Nat → Int32} {n : Nat} {x : SX} {g : PvG} {h : PvH} (hL : L ≤ 2560) (hn : n + 5 ≤ L) (R : RC g h x) (M : RM g h x) (O : okX x) (K : ∀ g' h' x', RC g' h' x' → RM g' h' x' → okX x' → pv_W L xs 863 [some (.ref pv_SC), some (.ref 0), some (.ref 102), some (.int (nI n))] [] 127 1724 g' h') : pv_W L xs 152 [some (.ref pv_SC), some (.ref 0), some (.ref 102), some (.int (nI n))] [] 127 1724 g h := by
  have e2 : nI n + 2 = nI (n + 2) := nI_add n 2
  have e3 : nI n + 3 = nI (n + 3) := nI_add n 3
  have e4 : nI n + 4 = nI (n + 4) := nI_add n 4
  have v1 := vp_nI (show n + 1 < L by omega) (show L < 2 ^ 31 by omega)
  have v2 := vp_nI (show n + 2 < L by omega) (show L < 2 ^ 31 by omega)
  have v3 := vp_nI (show n + 3 < L by omega) (show L < 2 ^ 31 by omega)
  have v4 := vp_nI (show n + 4 < L by omega) (show L < 2 ^ 31 by omega)
  have k1 := nI_clamp (show n + 1 < 2 ^ 31 by omega)
  have k2 := nI_clamp (show n + 2 < 2 ^ 31 by omega)
  have k3 := nI_clamp (show n + 3 < 2 ^ 31 by omega)
  have k4 := nI_clamp (show n + 4 < 2 ^ 31 by omega)
  simp only [w_152, w_153, w_154, w_155, w_156, w_157, w_158, w_159, w_160, w_161, w_162, w_163, w_164, w_166, w_167, w_168, w_169, w_170, w_171, w_172, w_173, w_176, w_177, pv_catN, pv_cat1, pv_cat2, pv_cat3, pv_catL, Option.toList, List.nil_append, List.cons_append, List.append_nil, pv_rfS, pn_i, pn_r, pn_n, pn_o, true_and, and_true, Nat.le_refl, and_self, true_implies, false_implies, not_true_eq_false, not_false_eq_true, pv_b0, pv_b01, pv_bn0, pv_b1, Bool.false_eq_true, Bool.true_eq_false, Bool.not_false, Bool.not_true, pv_bT, pv_bF, eq_self, true_or, or_true, nI_1, e2, e3, e4, v1, v2, v3, v4, k1, k2, k3, k4]
  rw [w_178 (by simp [pv_cat, Value.category]) (by decide)]
  refine ⟨R.o, lawC (oC59 O _ _) (by decide) R M (fun g1 h1 R1 M1 => ?_)⟩
  simp only [w_181, w_182, w_183, w_184, w_185, w_186, w_187, w_188, w_189, w_190, w_191, w_192, w_193, w_195, w_196, w_197, w_198, w_199, w_200, w_201, w_202, w_205, w_206, pv_catN, pv_cat1, pv_cat2, pv_cat3, pv_catL, Option.toList, List.nil_append, List.cons_append, List.append_nil, pv_rfS, pn_i, pn_r, pn_n, pn_o, true_and, and_true, Nat.le_refl, and_self, true_implies, false_implies, not_true_eq_false, not_false_eq_true, pv_b0, pv_b01, pv_bn0, pv_b1, Bool.false_eq_true, Bool.true_eq_false, Bool.not_false, Bool.not_true, pv_bT, pv_bF, eq_self, true_or, or_true, nI_1, e2, e3, e4, v1, v2, v3, v4, k1, k2, k3, k4]
  rw [w_207 (by simp [pv_cat, Value.category]) (by decide)]
  refine ⟨M1.1.o, lawM (oM104 O _ _) (by decide) (wrX_ok O _ _) R1 M1 (fun h2 R2 M2 => ?_)⟩
  simp only [w_210, pv_catN, pv_cat1, pv_cat2, pv_cat3, pv_catL, Option.toList, List.nil_append, List.cons_append, List.append_nil, pv_rfS, pn_i, pn_r, pn_n, pn_o, true_and, and_true, Nat.le_refl, and_self, true_implies, false_implies, not_true_eq_false, not_false_eq_true, pv_b0, pv_b01, pv_bn0, pv_b1, Bool.false_eq_true, Bool.true_eq_false, Bool.not_false, Bool.not_true, pv_bT, pv_bF, eq_self, true_or, or_true]
  exact K _ _ _ R2 M2 (wrX_ok O _ _)
theorem w_case1 {L : Nat} {xs : Nat → Int32} {n : Nat} {x : SX} {g : PvG} {h : PvH} (hL : L ≤ 2560) (hn : n + 5 ≤ L) (R : RC g h x) (M : RM g h x) (O : okX x) (K : ∀ g' h' x', RC g' h' x' → RM g' h' x' → okX x' → pv_W L xs 863 [some (.ref pv_SC), some (.ref 0), some (.ref 102), some (.int (nI n))] [] 127 1724 g' h') : pv_W L xs 215 [some (.ref pv_SC), some (.ref 0), some (.ref 102), some (.int (nI n))] [] 127 1724 g h := by
  have e2 : nI n + 2 = nI (n + 2) := nI_add n 2
  have e3 : nI n + 3 = nI (n + 3) := nI_add n 3
  have e4 : nI n + 4 = nI (n + 4) := nI_add n 4
  have v1 := vp_nI (show n + 1 < L by omega) (show L < 2 ^ 31 by omega)
  have v2 := vp_nI (show n + 2 < L by omega) (show L < 2 ^ 31 by omega)
  have v3 := vp_nI (show n + 3 < L by omega) (show L < 2 ^ 31 by omega)
  have v4 := vp_nI (show n + 4 < L by omega) (show L < 2 ^ 31 by omega)
  have k1 := nI_clamp (show n + 1 < 2 ^ 31 by omega)
  have k2 := nI_clamp (show n + 2 < 2 ^ 31 by omega)
  have k3 := nI_clamp (show n + 3 < 2 ^ 31 by omega)
  have k4 := nI_clamp (show n + 4 < 2 ^ 31 by omega)
  simp only [w_215, pv_catN, pv_cat1, pv_cat2, pv_cat3, pv_catL, Option.toList, List.nil_append, List.cons_append, List.append_nil, pv_rfS, pn_i, pn_r, pn_n, pn_o, true_and, and_true, Nat.le_refl, and_self, true_implies, false_implies, not_true_eq_false, not_false_eq_true, pv_b0, pv_b01, pv_bn0, pv_b1, Bool.false_eq_true, Bool.true_eq_false, Bool.not_false, Bool.not_true, pv_bT, pv_bF, eq_self, true_or, or_true, nI_1, e2, e3, e4, v1, v2, v3, v4, k1, k2, k3, k4]
  rw [w_216 (by simp [pv_cat, Value.category]) (by decide)]
  refine ⟨R.o, lawC (oC60 O) (by decide) R M (fun g1 h1 R1 M1 => ?_)⟩
  simp only [w_219, pv_catN, pv_cat1, pv_cat2, pv_cat3, pv_catL, Option.toList, List.nil_append, List.cons_append, List.append_nil, pv_rfS, pn_i, pn_r, pn_n, pn_o, true_and, and_true, Nat.le_refl, and_self, true_implies, false_implies, not_true_eq_false, not_false_eq_true, pv_b0, pv_b01, pv_bn0, pv_b1, Bool.false_eq_true, Bool.true_eq_false, Bool.not_false, Bool.not_true, pv_bT, pv_bF, eq_self, true_or, or_true, nI_1, e2, e3, e4, v1, v2, v3, v4, k1, k2, k3, k4]
  rw [w_220 (by simp [pv_cat, Value.category]) (by decide)]
  refine ⟨M1.1.o, lawM (oM105) (by decide) (wipeX_ok O) R1 M1 (fun h2 R2 M2 => ?_)⟩
  simp only [w_223, pv_catN, pv_cat1, pv_cat2, pv_cat3, pv_catL, Option.toList, List.nil_append, List.cons_append, List.append_nil, pv_rfS, pn_i, pn_r, pn_n, pn_o, true_and, and_true, Nat.le_refl, and_self, true_implies, false_implies, not_true_eq_false, not_false_eq_true, pv_b0, pv_b01, pv_bn0, pv_b1, Bool.false_eq_true, Bool.true_eq_false, Bool.not_false, Bool.not_true, pv_bT, pv_bF, eq_self, true_or, or_true]
  exact K _ _ _ R2 M2 (wipeX_ok O)
theorem w_case2 {L : Nat} {xs : Nat → Int32} {n : Nat} {x : SX} {g : PvG} {h : PvH} (hL : L ≤ 2560) (hn : n + 5 ≤ L) (R : RC g h x) (M : RM g h x) (O : okX x) (K : ∀ g' h' x', RC g' h' x' → RM g' h' x' → okX x' → pv_W L xs 863 [some (.ref pv_SC), some (.ref 0), some (.ref 102), some (.int (nI n))] [] 127 1724 g' h') : pv_W L xs 228 [some (.ref pv_SC), some (.ref 0), some (.ref 102), some (.int (nI n))] [] 127 1724 g h := by
  have e2 : nI n + 2 = nI (n + 2) := nI_add n 2
  have e3 : nI n + 3 = nI (n + 3) := nI_add n 3
  have e4 : nI n + 4 = nI (n + 4) := nI_add n 4
  have v1 := vp_nI (show n + 1 < L by omega) (show L < 2 ^ 31 by omega)
  have v2 := vp_nI (show n + 2 < L by omega) (show L < 2 ^ 31 by omega)
  have v3 := vp_nI (show n + 3 < L by omega) (show L < 2 ^ 31 by omega)
  have v4 := vp_nI (show n + 4 < L by omega) (show L < 2 ^ 31 by omega)
  have k1 := nI_clamp (show n + 1 < 2 ^ 31 by omega)
  have k2 := nI_clamp (show n + 2 < 2 ^ 31 by omega)
  have k3 := nI_clamp (show n + 3 < 2 ^ 31 by omega)
  have k4 := nI_clamp (show n + 4 < 2 ^ 31 by omega)
  simp only [w_228, pv_catN, pv_cat1, pv_cat2, pv_cat3, pv_catL, Option.toList, List.nil_append, List.cons_append, List.append_nil, pv_rfS, pn_i, pn_r, pn_n, pn_o, true_and, and_true, Nat.le_refl, and_self, true_implies, false_implies, not_true_eq_false, not_false_eq_true, pv_b0, pv_b01, pv_bn0, pv_b1, Bool.false_eq_true, Bool.true_eq_false, Bool.not_false, Bool.not_true, pv_bT, pv_bF, eq_self, true_or, or_true, nI_1, e2, e3, e4, v1, v2, v3, v4, k1, k2, k3, k4]
  rw [w_229 (by simp [pv_cat, Value.category]) (by decide)]
  refine ⟨R.o, lawC (oC61 O) (by decide) R M (fun g1 h1 R1 M1 => ?_)⟩
  simp only [w_232, pv_catN, pv_cat1, pv_cat2, pv_cat3, pv_catL, Option.toList, List.nil_append, List.cons_append, List.append_nil, pv_rfS, pn_i, pn_r, pn_n, pn_o, true_and, and_true, Nat.le_refl, and_self, true_implies, false_implies, not_true_eq_false, not_false_eq_true, pv_b0, pv_b01, pv_bn0, pv_b1, Bool.false_eq_true, Bool.true_eq_false, Bool.not_false, Bool.not_true, pv_bT, pv_bF, eq_self, true_or, or_true, nI_1, e2, e3, e4, v1, v2, v3, v4, k1, k2, k3, k4]
  rw [w_233 (by simp [pv_cat, Value.category]) (by decide)]
  refine ⟨M1.1.o, lawM (oM115 O) (by decide) (O) R1 M1 (fun h2 R2 M2 => ?_)⟩
  simp only [w_236, pv_catN, pv_cat1, pv_cat2, pv_cat3, pv_catL, Option.toList, List.nil_append, List.cons_append, List.append_nil, pv_rfS, pn_i, pn_r, pn_n, pn_o, true_and, and_true, Nat.le_refl, and_self, true_implies, false_implies, not_true_eq_false, not_false_eq_true, pv_b0, pv_b01, pv_bn0, pv_b1, Bool.false_eq_true, Bool.true_eq_false, Bool.not_false, Bool.not_true, pv_bT, pv_bF, eq_self, true_or, or_true]
  exact K _ _ _ R2 M2 (O)
theorem w_case3 {L : Nat} {xs : Nat → Int32} {n : Nat} {x : SX} {g : PvG} {h : PvH} (hL : L ≤ 2560) (hn : n + 5 ≤ L) (R : RC g h x) (M : RM g h x) (O : okX x) (K : ∀ g' h' x', RC g' h' x' → RM g' h' x' → okX x' → pv_W L xs 863 [some (.ref pv_SC), some (.ref 0), some (.ref 102), some (.int (nI n))] [] 127 1724 g' h') : pv_W L xs 241 [some (.ref pv_SC), some (.ref 0), some (.ref 102), some (.int (nI n))] [] 127 1724 g h := by
  have e2 : nI n + 2 = nI (n + 2) := nI_add n 2
  have e3 : nI n + 3 = nI (n + 3) := nI_add n 3
  have e4 : nI n + 4 = nI (n + 4) := nI_add n 4
  have v1 := vp_nI (show n + 1 < L by omega) (show L < 2 ^ 31 by omega)
  have v2 := vp_nI (show n + 2 < L by omega) (show L < 2 ^ 31 by omega)
  have v3 := vp_nI (show n + 3 < L by omega) (show L < 2 ^ 31 by omega)
  have v4 := vp_nI (show n + 4 < L by omega) (show L < 2 ^ 31 by omega)
  have k1 := nI_clamp (show n + 1 < 2 ^ 31 by omega)
  have k2 := nI_clamp (show n + 2 < 2 ^ 31 by omega)
  have k3 := nI_clamp (show n + 3 < 2 ^ 31 by omega)
  have k4 := nI_clamp (show n + 4 < 2 ^ 31 by omega)
  simp only [w_241, pv_catN, pv_cat1, pv_cat2, pv_cat3, pv_catL, Option.toList, List.nil_append, List.cons_append, List.append_nil, pv_rfS, pn_i, pn_r, pn_n, pn_o, true_and, and_true, Nat.le_refl, and_self, true_implies, false_implies, not_true_eq_false, not_false_eq_true, pv_b0, pv_b01, pv_bn0, pv_b1, Bool.false_eq_true, Bool.true_eq_false, Bool.not_false, Bool.not_true, pv_bT, pv_bF, eq_self, true_or, or_true, nI_1, e2, e3, e4, v1, v2, v3, v4, k1, k2, k3, k4]
  rw [w_242 (by simp [pv_cat, Value.category]) (by decide)]
  refine ⟨R.o, lawC (oC62 O) (by decide) R M (fun g1 h1 R1 M1 => ?_)⟩
  simp only [w_245, pv_catN, pv_cat1, pv_cat2, pv_cat3, pv_catL, Option.toList, List.nil_append, List.cons_append, List.append_nil, pv_rfS, pn_i, pn_r, pn_n, pn_o, true_and, and_true, Nat.le_refl, and_self, true_implies, false_implies, not_true_eq_false, not_false_eq_true, pv_b0, pv_b01, pv_bn0, pv_b1, Bool.false_eq_true, Bool.true_eq_false, Bool.not_false, Bool.not_true, pv_bT, pv_bF, eq_self, true_or, or_true, nI_1, e2, e3, e4, v1, v2, v3, v4, k1, k2, k3, k4]
  rw [w_246 (by simp [pv_cat, Value.category]) (by decide)]
  refine ⟨M1.1.o, lawM (oM116 O) (by decide) (towXX_ok O) R1 M1 (fun h2 R2 M2 => ?_)⟩
  simp only [w_249, pv_catN, pv_cat1, pv_cat2, pv_cat3, pv_catL, Option.toList, List.nil_append, List.cons_append, List.append_nil, pv_rfS, pn_i, pn_r, pn_n, pn_o, true_and, and_true, Nat.le_refl, and_self, true_implies, false_implies, not_true_eq_false, not_false_eq_true, pv_b0, pv_b01, pv_bn0, pv_b1, Bool.false_eq_true, Bool.true_eq_false, Bool.not_false, Bool.not_true, pv_bT, pv_bF, eq_self, true_or, or_true]
  exact K _ _ _ R2 M2 (towXX_ok O)
theorem w_case4 {L : Nat} {xs : Nat → Int32} {n : Nat} {x : SX} {g : PvG} {h : PvH} (hL : L ≤ 2560) (hn : n + 5 ≤ L) (R : RC g h x) (M : RM g h x) (O : okX x) (K : ∀ g' h' x', RC g' h' x' → RM g' h' x' → okX x' → pv_W L xs 863 [some (.ref pv_SC), some (.ref 0), some (.ref 102), some (.int (nI n))] [] 127 1724 g' h') : pv_W L xs 254 [some (.ref pv_SC), some (.ref 0), some (.ref 102), some (.int (nI n))] [] 127 1724 g h := by
  have e2 : nI n + 2 = nI (n + 2) := nI_add n 2
  have e3 : nI n + 3 = nI (n + 3) := nI_add n 3
  have e4 : nI n + 4 = nI (n + 4) := nI_add n 4
  have v1 := vp_nI (show n + 1 < L by omega) (show L < 2 ^ 31 by omega)
  have v2 := vp_nI (show n + 2 < L by omega) (show L < 2 ^ 31 by omega)
  have v3 := vp_nI (show n + 3 < L by omega) (show L < 2 ^ 31 by omega)
  have v4 := vp_nI (show n + 4 < L by omega) (show L < 2 ^ 31 by omega)
  have k1 := nI_clamp (show n + 1 < 2 ^ 31 by omega)
  have k2 := nI_clamp (show n + 2 < 2 ^ 31 by omega)
  have k3 := nI_clamp (show n + 3 < 2 ^ 31 by omega)
  have k4 := nI_clamp (show n + 4 < 2 ^ 31 by omega)
  simp only [w_254, w_255, w_256, w_257, w_258, w_259, pv_catN, pv_cat1, pv_cat2, pv_cat3, pv_catL, Option.toList, List.nil_append, List.cons_append, List.append_nil, pv_rfS, pn_i, pn_r, pn_n, pn_o, true_and, and_true, Nat.le_refl, and_self, true_implies, false_implies, not_true_eq_false, not_false_eq_true, pv_b0, pv_b01, pv_bn0, pv_b1, Bool.false_eq_true, Bool.true_eq_false, Bool.not_false, Bool.not_true, pv_bT, pv_bF, eq_self, true_or, or_true, nI_1, e2, e3, e4, v1, v2, v3, v4, k1, k2, k3, k4]
  rw [w_260 (by simp [pv_cat, Value.category]) (by decide)]
  refine ⟨R.o, lawC (oC63 O _) (by decide) R M (fun g1 h1 R1 M1 => ?_)⟩
  simp only [w_263, w_264, w_265, w_266, w_267, w_268, pv_catN, pv_cat1, pv_cat2, pv_cat3, pv_catL, Option.toList, List.nil_append, List.cons_append, List.append_nil, pv_rfS, pn_i, pn_r, pn_n, pn_o, true_and, and_true, Nat.le_refl, and_self, true_implies, false_implies, not_true_eq_false, not_false_eq_true, pv_b0, pv_b01, pv_bn0, pv_b1, Bool.false_eq_true, Bool.true_eq_false, Bool.not_false, Bool.not_true, pv_bT, pv_bF, eq_self, true_or, or_true, nI_1, e2, e3, e4, v1, v2, v3, v4, k1, k2, k3, k4]
  rw [w_269 (by simp [pv_cat, Value.category]) (by decide)]
  refine ⟨M1.1.o, lawM (oM121 O _) (by decide) (O) R1 M1 (fun h2 R2 M2 => ?_)⟩
  simp only [w_272, pv_catN, pv_cat1, pv_cat2, pv_cat3, pv_catL, Option.toList, List.nil_append, List.cons_append, List.append_nil, pv_rfS, pn_i, pn_r, pn_n, pn_o, true_and, and_true, Nat.le_refl, and_self, true_implies, false_implies, not_true_eq_false, not_false_eq_true, pv_b0, pv_b01, pv_bn0, pv_b1, Bool.false_eq_true, Bool.true_eq_false, Bool.not_false, Bool.not_true, pv_bT, pv_bF, eq_self, true_or, or_true]
  exact K _ _ _ R2 M2 (O)
theorem w_case5 {L : Nat} {xs : Nat → Int32} {n : Nat} {x : SX} {g : PvG} {h : PvH} (hL : L ≤ 2560) (hn : n + 5 ≤ L) (R : RC g h x) (M : RM g h x) (O : okX x) (K : ∀ g' h' x', RC g' h' x' → RM g' h' x' → okX x' → pv_W L xs 863 [some (.ref pv_SC), some (.ref 0), some (.ref 102), some (.int (nI n))] [] 127 1724 g' h') : pv_W L xs 277 [some (.ref pv_SC), some (.ref 0), some (.ref 102), some (.int (nI n))] [] 127 1724 g h := by
  have e2 : nI n + 2 = nI (n + 2) := nI_add n 2
  have e3 : nI n + 3 = nI (n + 3) := nI_add n 3
  have e4 : nI n + 4 = nI (n + 4) := nI_add n 4
  have v1 := vp_nI (show n + 1 < L by omega) (show L < 2 ^ 31 by omega)
  have v2 := vp_nI (show n + 2 < L by omega) (show L < 2 ^ 31 by omega)
  have v3 := vp_nI (show n + 3 < L by omega) (show L < 2 ^ 31 by omega)
  have v4 := vp_nI (show n + 4 < L by omega) (show L < 2 ^ 31 by omega)
  have k1 := nI_clamp (show n + 1 < 2 ^ 31 by omega)
  have k2 := nI_clamp (show n + 2 < 2 ^ 31 by omega)
  have k3 := nI_clamp (show n + 3 < 2 ^ 31 by omega)
  have k4 := nI_clamp (show n + 4 < 2 ^ 31 by omega)
  simp only [w_277, w_278, w_279, w_280, w_281, w_282, w_283, w_284, w_285, w_286, w_287, pv_catN, pv_cat1, pv_cat2, pv_cat3, pv_catL, Option.toList, List.nil_append, List.cons_append, List.append_nil, pv_rfS, pn_i, pn_r, pn_n, pn_o, true_and, and_true, Nat.le_refl, and_self, true_implies, false_implies, not_true_eq_false, not_false_eq_true, pv_b0, pv_b01, pv_bn0, pv_b1, Bool.false_eq_true, Bool.true_eq_false, Bool.not_false, Bool.not_true, pv_bT, pv_bF, eq_self, true_or, or_true, nI_1, e2, e3, e4, v1, v2, v3, v4, k1, k2, k3, k4]
  rw [w_288 (by simp [pv_cat, Value.category]) (by decide)]
  refine ⟨R.o, lawC (oC64 O _ _) (by decide) R M (fun g1 h1 R1 M1 => ?_)⟩
  simp only [w_291, w_292, w_293, w_294, w_295, w_296, w_297, w_298, w_299, w_300, w_301, pv_catN, pv_cat1, pv_cat2, pv_cat3, pv_catL, Option.toList, List.nil_append, List.cons_append, List.append_nil, pv_rfS, pn_i, pn_r, pn_n, pn_o, true_and, and_true, Nat.le_refl, and_self, true_implies, false_implies, not_true_eq_false, not_false_eq_true, pv_b0, pv_b01, pv_bn0, pv_b1, Bool.false_eq_true, Bool.true_eq_false, Bool.not_false, Bool.not_true, pv_bT, pv_bF, eq_self, true_or, or_true, nI_1, e2, e3, e4, v1, v2, v3, v4, k1, k2, k3, k4]
  rw [w_302 (by simp [pv_cat, Value.category]) (by decide)]
  refine ⟨M1.1.o, lawM (oM124 O _ _) (by decide) (O) R1 M1 (fun h2 R2 M2 => ?_)⟩
  simp only [w_305, pv_catN, pv_cat1, pv_cat2, pv_cat3, pv_catL, Option.toList, List.nil_append, List.cons_append, List.append_nil, pv_rfS, pn_i, pn_r, pn_n, pn_o, true_and, and_true, Nat.le_refl, and_self, true_implies, false_implies, not_true_eq_false, not_false_eq_true, pv_b0, pv_b01, pv_bn0, pv_b1, Bool.false_eq_true, Bool.true_eq_false, Bool.not_false, Bool.not_true, pv_bT, pv_bF, eq_self, true_or, or_true]
  exact K _ _ _ R2 M2 (O)
theorem w_case6 {L : Nat} {xs : Nat → Int32} {n : Nat} {x : SX} {g : PvG} {h : PvH} (hL : L ≤ 2560) (hn : n + 5 ≤ L) (R : RC g h x) (M : RM g h x) (O : okX x) (K : ∀ g' h' x', RC g' h' x' → RM g' h' x' → okX x' → pv_W L xs 863 [some (.ref pv_SC), some (.ref 0), some (.ref 102), some (.int (nI n))] [] 127 1724 g' h') : pv_W L xs 310 [some (.ref pv_SC), some (.ref 0), some (.ref 102), some (.int (nI n))] [] 127 1724 g h := by
  have e2 : nI n + 2 = nI (n + 2) := nI_add n 2
  have e3 : nI n + 3 = nI (n + 3) := nI_add n 3
  have e4 : nI n + 4 = nI (n + 4) := nI_add n 4
  have v1 := vp_nI (show n + 1 < L by omega) (show L < 2 ^ 31 by omega)
  have v2 := vp_nI (show n + 2 < L by omega) (show L < 2 ^ 31 by omega)
  have v3 := vp_nI (show n + 3 < L by omega) (show L < 2 ^ 31 by omega)
  have v4 := vp_nI (show n + 4 < L by omega) (show L < 2 ^ 31 by omega)
  have k1 := nI_clamp (show n + 1 < 2 ^ 31 by omega)
  have k2 := nI_clamp (show n + 2 < 2 ^ 31 by omega)
  have k3 := nI_clamp (show n + 3 < 2 ^ 31 by omega)
  have k4 := nI_clamp (show n + 4 < 2 ^ 31 by omega)
  simp only [w_310, w_311, w_312, w_313, w_314, w_315, w_316, w_317, w_318, w_319, w_320, pv_catN, pv_cat1, pv_cat2, pv_cat3, pv_catL, Option.toList, List.nil_append, List.cons_append, List.append_nil, pv_rfS, pn_i, pn_r, pn_n, pn_o, true_and, and_true, Nat.le_refl, and_self, true_implies, false_implies, not_true_eq_false, not_false_eq_true, pv_b0, pv_b01, pv_bn0, pv_b1, Bool.false_eq_true, Bool.true_eq_false, Bool.not_false, Bool.not_true, pv_bT, pv_bF, eq_self, true_or, or_true, nI_1, e2, e3, e4, v1, v2, v3, v4, k1, k2, k3, k4]
  rw [w_321 (by simp [pv_cat, Value.category]) (by decide)]
  refine ⟨R.o, lawC (oC65 O _ _) (by decide) R M (fun g1 h1 R1 M1 => ?_)⟩
  simp only [w_324, w_325, w_326, w_327, w_328, w_329, w_330, w_331, w_332, w_333, w_334, pv_catN, pv_cat1, pv_cat2, pv_cat3, pv_catL, Option.toList, List.nil_append, List.cons_append, List.append_nil, pv_rfS, pn_i, pn_r, pn_n, pn_o, true_and, and_true, Nat.le_refl, and_self, true_implies, false_implies, not_true_eq_false, not_false_eq_true, pv_b0, pv_b01, pv_bn0, pv_b1, Bool.false_eq_true, Bool.true_eq_false, Bool.not_false, Bool.not_true, pv_bT, pv_bF, eq_self, true_or, or_true, nI_1, e2, e3, e4, v1, v2, v3, v4, k1, k2, k3, k4]
  rw [w_335 (by simp [pv_cat, Value.category]) (by decide)]
  refine ⟨M1.1.o, lawM (oM125 O _ _) (by decide) (O) R1 M1 (fun h2 R2 M2 => ?_)⟩
  simp only [w_338, pv_catN, pv_cat1, pv_cat2, pv_cat3, pv_catL, Option.toList, List.nil_append, List.cons_append, List.append_nil, pv_rfS, pn_i, pn_r, pn_n, pn_o, true_and, and_true, Nat.le_refl, and_self, true_implies, false_implies, not_true_eq_false, not_false_eq_true, pv_b0, pv_b01, pv_bn0, pv_b1, Bool.false_eq_true, Bool.true_eq_false, Bool.not_false, Bool.not_true, pv_bT, pv_bF, eq_self, true_or, or_true]
  exact K _ _ _ R2 M2 (O)
theorem w_case7 {L : Nat} {xs : Nat → Int32} {n : Nat} {x : SX} {g : PvG} {h : PvH} (hL : L ≤ 2560) (hn : n + 5 ≤ L) (R : RC g h x) (M : RM g h x) (O : okX x) (K : ∀ g' h' x', RC g' h' x' → RM g' h' x' → okX x' → pv_W L xs 863 [some (.ref pv_SC), some (.ref 0), some (.ref 102), some (.int (nI n))] [] 127 1724 g' h') : pv_W L xs 343 [some (.ref pv_SC), some (.ref 0), some (.ref 102), some (.int (nI n))] [] 127 1724 g h := by
  have e2 : nI n + 2 = nI (n + 2) := nI_add n 2
  have e3 : nI n + 3 = nI (n + 3) := nI_add n 3
  have e4 : nI n + 4 = nI (n + 4) := nI_add n 4
  have v1 := vp_nI (show n + 1 < L by omega) (show L < 2 ^ 31 by omega)
  have v2 := vp_nI (show n + 2 < L by omega) (show L < 2 ^ 31 by omega)
  have v3 := vp_nI (show n + 3 < L by omega) (show L < 2 ^ 31 by omega)
  have v4 := vp_nI (show n + 4 < L by omega) (show L < 2 ^ 31 by omega)
  have k1 := nI_clamp (show n + 1 < 2 ^ 31 by omega)
  have k2 := nI_clamp (show n + 2 < 2 ^ 31 by omega)
  have k3 := nI_clamp (show n + 3 < 2 ^ 31 by omega)
  have k4 := nI_clamp (show n + 4 < 2 ^ 31 by omega)
  simp only [w_343, w_344, w_345, w_346, w_347, w_348, w_349, w_350, w_351, w_352, w_353, pv_catN, pv_cat1, pv_cat2, pv_cat3, pv_catL, Option.toList, List.nil_append, List.cons_append, List.append_nil, pv_rfS, pn_i, pn_r, pn_n, pn_o, true_and, and_true, Nat.le_refl, and_self, true_implies, false_implies, not_true_eq_false, not_false_eq_true, pv_b0, pv_b01, pv_bn0, pv_b1, Bool.false_eq_true, Bool.true_eq_false, Bool.not_false, Bool.not_true, pv_bT, pv_bF, eq_self, true_or, or_true, nI_1, e2, e3, e4, v1, v2, v3, v4, k1, k2, k3, k4]
  rw [w_354 (by simp [pv_cat, Value.category]) (by decide)]
  refine ⟨R.o, lawC (oC66 O _ _) (by decide) R M (fun g1 h1 R1 M1 => ?_)⟩
  simp only [w_357, w_358, w_359, w_360, w_361, w_362, w_363, w_364, w_365, w_366, w_367, pv_catN, pv_cat1, pv_cat2, pv_cat3, pv_catL, Option.toList, List.nil_append, List.cons_append, List.append_nil, pv_rfS, pn_i, pn_r, pn_n, pn_o, true_and, and_true, Nat.le_refl, and_self, true_implies, false_implies, not_true_eq_false, not_false_eq_true, pv_b0, pv_b01, pv_bn0, pv_b1, Bool.false_eq_true, Bool.true_eq_false, Bool.not_false, Bool.not_true, pv_bT, pv_bF, eq_self, true_or, or_true, nI_1, e2, e3, e4, v1, v2, v3, v4, k1, k2, k3, k4]
  rw [w_368 (by simp [pv_cat, Value.category]) (by decide)]
  refine ⟨M1.1.o, lawM (oM126 O _ _) (by decide) (O) R1 M1 (fun h2 R2 M2 => ?_)⟩
  simp only [w_371, pv_catN, pv_cat1, pv_cat2, pv_cat3, pv_catL, Option.toList, List.nil_append, List.cons_append, List.append_nil, pv_rfS, pn_i, pn_r, pn_n, pn_o, true_and, and_true, Nat.le_refl, and_self, true_implies, false_implies, not_true_eq_false, not_false_eq_true, pv_b0, pv_b01, pv_bn0, pv_b1, Bool.false_eq_true, Bool.true_eq_false, Bool.not_false, Bool.not_true, pv_bT, pv_bF, eq_self, true_or, or_true]
  exact K _ _ _ R2 M2 (O)
theorem w_case8 {L : Nat} {xs : Nat → Int32} {n : Nat} {x : SX} {g : PvG} {h : PvH} (hL : L ≤ 2560) (hn : n + 5 ≤ L) (R : RC g h x) (M : RM g h x) (O : okX x) (K : ∀ g' h' x', RC g' h' x' → RM g' h' x' → okX x' → pv_W L xs 863 [some (.ref pv_SC), some (.ref 0), some (.ref 102), some (.int (nI n))] [] 127 1724 g' h') : pv_W L xs 376 [some (.ref pv_SC), some (.ref 0), some (.ref 102), some (.int (nI n))] [] 127 1724 g h := by
  have e2 : nI n + 2 = nI (n + 2) := nI_add n 2
  have e3 : nI n + 3 = nI (n + 3) := nI_add n 3
  have e4 : nI n + 4 = nI (n + 4) := nI_add n 4
  have v1 := vp_nI (show n + 1 < L by omega) (show L < 2 ^ 31 by omega)
  have v2 := vp_nI (show n + 2 < L by omega) (show L < 2 ^ 31 by omega)
  have v3 := vp_nI (show n + 3 < L by omega) (show L < 2 ^ 31 by omega)
  have v4 := vp_nI (show n + 4 < L by omega) (show L < 2 ^ 31 by omega)
  have k1 := nI_clamp (show n + 1 < 2 ^ 31 by omega)
  have k2 := nI_clamp (show n + 2 < 2 ^ 31 by omega)
  have k3 := nI_clamp (show n + 3 < 2 ^ 31 by omega)
  have k4 := nI_clamp (show n + 4 < 2 ^ 31 by omega)
  simp only [w_376, w_377, w_378, w_379, w_380, w_381, pv_catN, pv_cat1, pv_cat2, pv_cat3, pv_catL, Option.toList, List.nil_append, List.cons_append, List.append_nil, pv_rfS, pn_i, pn_r, pn_n, pn_o, true_and, and_true, Nat.le_refl, and_self, true_implies, false_implies, not_true_eq_false, not_false_eq_true, pv_b0, pv_b01, pv_bn0, pv_b1, Bool.false_eq_true, Bool.true_eq_false, Bool.not_false, Bool.not_true, pv_bT, pv_bF, eq_self, true_or, or_true, nI_1, e2, e3, e4, v1, v2, v3, v4, k1, k2, k3, k4]
  rw [w_382 (by simp [pv_cat, Value.category]) (by decide)]
  refine ⟨R.o, lawC (oC67 O _) (by decide) R M (fun g1 h1 R1 M1 => ?_)⟩
  simp only [w_385, w_386, w_387, w_388, w_389, w_390, pv_catN, pv_cat1, pv_cat2, pv_cat3, pv_catL, Option.toList, List.nil_append, List.cons_append, List.append_nil, pv_rfS, pn_i, pn_r, pn_n, pn_o, true_and, and_true, Nat.le_refl, and_self, true_implies, false_implies, not_true_eq_false, not_false_eq_true, pv_b0, pv_b01, pv_bn0, pv_b1, Bool.false_eq_true, Bool.true_eq_false, Bool.not_false, Bool.not_true, pv_bT, pv_bF, eq_self, true_or, or_true, nI_1, e2, e3, e4, v1, v2, v3, v4, k1, k2, k3, k4]
  rw [w_391 (by simp [pv_cat, Value.category]) (by decide)]
  refine ⟨M1.1.o, lawM (oM127 O _) (by decide) (effX_ok O _) R1 M1 (fun h2 R2 M2 => ?_)⟩
  simp only [w_394, pv_catN, pv_cat1, pv_cat2, pv_cat3, pv_catL, Option.toList, List.nil_append, List.cons_append, List.append_nil, pv_rfS, pn_i, pn_r, pn_n, pn_o, true_and, and_true, Nat.le_refl, and_self, true_implies, false_implies, not_true_eq_false, not_false_eq_true, pv_b0, pv_b01, pv_bn0, pv_b1, Bool.false_eq_true, Bool.true_eq_false, Bool.not_false, Bool.not_true, pv_bT, pv_bF, eq_self, true_or, or_true]
  exact K _ _ _ R2 M2 (effX_ok O _)
theorem w_case9 {L : Nat} {xs : Nat → Int32} {n : Nat} {x : SX} {g : PvG} {h : PvH} (hL : L ≤ 2560) (hn : n + 5 ≤ L) (R : RC g h x) (M : RM g h x) (O : okX x) (K : ∀ g' h' x', RC g' h' x' → RM g' h' x' → okX x' → pv_W L xs 863 [some (.ref pv_SC), some (.ref 0), some (.ref 102), some (.int (nI n))] [] 127 1724 g' h') : pv_W L xs 399 [some (.ref pv_SC), some (.ref 0), some (.ref 102), some (.int (nI n))] [] 127 1724 g h := by
  have e2 : nI n + 2 = nI (n + 2) := nI_add n 2
  have e3 : nI n + 3 = nI (n + 3) := nI_add n 3
  have e4 : nI n + 4 = nI (n + 4) := nI_add n 4
  have v1 := vp_nI (show n + 1 < L by omega) (show L < 2 ^ 31 by omega)
  have v2 := vp_nI (show n + 2 < L by omega) (show L < 2 ^ 31 by omega)
  have v3 := vp_nI (show n + 3 < L by omega) (show L < 2 ^ 31 by omega)
  have v4 := vp_nI (show n + 4 < L by omega) (show L < 2 ^ 31 by omega)
  have k1 := nI_clamp (show n + 1 < 2 ^ 31 by omega)
  have k2 := nI_clamp (show n + 2 < 2 ^ 31 by omega)
  have k3 := nI_clamp (show n + 3 < 2 ^ 31 by omega)
  have k4 := nI_clamp (show n + 4 < 2 ^ 31 by omega)
  simp only [w_399, w_400, w_401, w_402, w_403, w_404, w_405, w_406, w_407, w_408, w_409, pv_catN, pv_cat1, pv_cat2, pv_cat3, pv_catL, Option.toList, List.nil_append, List.cons_append, List.append_nil, pv_rfS, pn_i, pn_r, pn_n, pn_o, true_and, and_true, Nat.le_refl, and_self, true_implies, false_implies, not_true_eq_false, not_false_eq_true, pv_b0, pv_b01, pv_bn0, pv_b1, Bool.false_eq_true, Bool.true_eq_false, Bool.not_false, Bool.not_true, pv_bT, pv_bF, eq_self, true_or, or_true, nI_1, e2, e3, e4, v1, v2, v3, v4, k1, k2, k3, k4]
  rw [w_410 (by simp [pv_cat, Value.category]) (by decide)]
  refine ⟨R.o, lawC (oC68 O _ _) (by decide) R M (fun g1 h1 R1 M1 => ?_)⟩
  simp only [w_413, w_414, w_415, w_416, w_417, w_418, w_419, w_420, w_421, w_422, w_423, pv_catN, pv_cat1, pv_cat2, pv_cat3, pv_catL, Option.toList, List.nil_append, List.cons_append, List.append_nil, pv_rfS, pn_i, pn_r, pn_n, pn_o, true_and, and_true, Nat.le_refl, and_self, true_implies, false_implies, not_true_eq_false, not_false_eq_true, pv_b0, pv_b01, pv_bn0, pv_b1, Bool.false_eq_true, Bool.true_eq_false, Bool.not_false, Bool.not_true, pv_bT, pv_bF, eq_self, true_or, or_true, nI_1, e2, e3, e4, v1, v2, v3, v4, k1, k2, k3, k4]
  rw [w_424 (by simp [pv_cat, Value.category]) (by decide)]
  refine ⟨M1.1.o, lawM (oM133 O _ _) (by decide) (carX_ok O _ _) R1 M1 (fun h2 R2 M2 => ?_)⟩
  simp only [w_427, pv_catN, pv_cat1, pv_cat2, pv_cat3, pv_catL, Option.toList, List.nil_append, List.cons_append, List.append_nil, pv_rfS, pn_i, pn_r, pn_n, pn_o, true_and, and_true, Nat.le_refl, and_self, true_implies, false_implies, not_true_eq_false, not_false_eq_true, pv_b0, pv_b01, pv_bn0, pv_b1, Bool.false_eq_true, Bool.true_eq_false, Bool.not_false, Bool.not_true, pv_bT, pv_bF, eq_self, true_or, or_true]
  exact K _ _ _ R2 M2 (carX_ok O _ _)
theorem w_case10 {L : Nat} {xs : Nat → Int32} {n : Nat} {x : SX} {g : PvG} {h : PvH} (hL : L ≤ 2560) (hn : n + 5 ≤ L) (R : RC g h x) (M : RM g h x) (O : okX x) (K : ∀ g' h' x', RC g' h' x' → RM g' h' x' → okX x' → pv_W L xs 863 [some (.ref pv_SC), some (.ref 0), some (.ref 102), some (.int (nI n))] [] 127 1724 g' h') : pv_W L xs 432 [some (.ref pv_SC), some (.ref 0), some (.ref 102), some (.int (nI n))] [] 127 1724 g h := by
  have e2 : nI n + 2 = nI (n + 2) := nI_add n 2
  have e3 : nI n + 3 = nI (n + 3) := nI_add n 3
  have e4 : nI n + 4 = nI (n + 4) := nI_add n 4
  have v1 := vp_nI (show n + 1 < L by omega) (show L < 2 ^ 31 by omega)
  have v2 := vp_nI (show n + 2 < L by omega) (show L < 2 ^ 31 by omega)
  have v3 := vp_nI (show n + 3 < L by omega) (show L < 2 ^ 31 by omega)
  have v4 := vp_nI (show n + 4 < L by omega) (show L < 2 ^ 31 by omega)
  have k1 := nI_clamp (show n + 1 < 2 ^ 31 by omega)
  have k2 := nI_clamp (show n + 2 < 2 ^ 31 by omega)
  have k3 := nI_clamp (show n + 3 < 2 ^ 31 by omega)
  have k4 := nI_clamp (show n + 4 < 2 ^ 31 by omega)
  simp only [w_432, w_433, w_434, w_435, w_436, w_437, pv_catN, pv_cat1, pv_cat2, pv_cat3, pv_catL, Option.toList, List.nil_append, List.cons_append, List.append_nil, pv_rfS, pn_i, pn_r, pn_n, pn_o, true_and, and_true, Nat.le_refl, and_self, true_implies, false_implies, not_true_eq_false, not_false_eq_true, pv_b0, pv_b01, pv_bn0, pv_b1, Bool.false_eq_true, Bool.true_eq_false, Bool.not_false, Bool.not_true, pv_bT, pv_bF, eq_self, true_or, or_true, nI_1, e2, e3, e4, v1, v2, v3, v4, k1, k2, k3, k4]
  rw [w_438 (by simp [pv_cat, Value.category]) (by decide)]
  refine ⟨R.o, lawC (oC69 O _) (by decide) R M (fun g1 h1 R1 M1 => ?_)⟩
  simp only [w_441, w_442, w_443, w_444, w_445, w_446, pv_catN, pv_cat1, pv_cat2, pv_cat3, pv_catL, Option.toList, List.nil_append, List.cons_append, List.append_nil, pv_rfS, pn_i, pn_r, pn_n, pn_o, true_and, and_true, Nat.le_refl, and_self, true_implies, false_implies, not_true_eq_false, not_false_eq_true, pv_b0, pv_b01, pv_bn0, pv_b1, Bool.false_eq_true, Bool.true_eq_false, Bool.not_false, Bool.not_true, pv_bT, pv_bF, eq_self, true_or, or_true, nI_1, e2, e3, e4, v1, v2, v3, v4, k1, k2, k3, k4]
  rw [w_447 (by simp [pv_cat, Value.category]) (by decide)]
  refine ⟨M1.1.o, lawM (oM134 O _) (by decide) (O) R1 M1 (fun h2 R2 M2 => ?_)⟩
  simp only [w_450, pv_catN, pv_cat1, pv_cat2, pv_cat3, pv_catL, Option.toList, List.nil_append, List.cons_append, List.append_nil, pv_rfS, pn_i, pn_r, pn_n, pn_o, true_and, and_true, Nat.le_refl, and_self, true_implies, false_implies, not_true_eq_false, not_false_eq_true, pv_b0, pv_b01, pv_bn0, pv_b1, Bool.false_eq_true, Bool.true_eq_false, Bool.not_false, Bool.not_true, pv_bT, pv_bF, eq_self, true_or, or_true]
  exact K _ _ _ R2 M2 (O)
theorem w_case11 {L : Nat} {xs : Nat → Int32} {n : Nat} {x : SX} {g : PvG} {h : PvH} (hL : L ≤ 2560) (hn : n + 5 ≤ L) (R : RC g h x) (M : RM g h x) (O : okX x) (K : ∀ g' h' x', RC g' h' x' → RM g' h' x' → okX x' → pv_W L xs 863 [some (.ref pv_SC), some (.ref 0), some (.ref 102), some (.int (nI n))] [] 127 1724 g' h') : pv_W L xs 455 [some (.ref pv_SC), some (.ref 0), some (.ref 102), some (.int (nI n))] [] 127 1724 g h := by
  have e2 : nI n + 2 = nI (n + 2) := nI_add n 2
  have e3 : nI n + 3 = nI (n + 3) := nI_add n 3
  have e4 : nI n + 4 = nI (n + 4) := nI_add n 4
  have v1 := vp_nI (show n + 1 < L by omega) (show L < 2 ^ 31 by omega)
  have v2 := vp_nI (show n + 2 < L by omega) (show L < 2 ^ 31 by omega)
  have v3 := vp_nI (show n + 3 < L by omega) (show L < 2 ^ 31 by omega)
  have v4 := vp_nI (show n + 4 < L by omega) (show L < 2 ^ 31 by omega)
  have k1 := nI_clamp (show n + 1 < 2 ^ 31 by omega)
  have k2 := nI_clamp (show n + 2 < 2 ^ 31 by omega)
  have k3 := nI_clamp (show n + 3 < 2 ^ 31 by omega)
  have k4 := nI_clamp (show n + 4 < 2 ^ 31 by omega)
  simp only [w_455, pv_catN, pv_cat1, pv_cat2, pv_cat3, pv_catL, Option.toList, List.nil_append, List.cons_append, List.append_nil, pv_rfS, pn_i, pn_r, pn_n, pn_o, true_and, and_true, Nat.le_refl, and_self, true_implies, false_implies, not_true_eq_false, not_false_eq_true, pv_b0, pv_b01, pv_bn0, pv_b1, Bool.false_eq_true, Bool.true_eq_false, Bool.not_false, Bool.not_true, pv_bT, pv_bF, eq_self, true_or, or_true, nI_1, e2, e3, e4, v1, v2, v3, v4, k1, k2, k3, k4]
  rw [w_456 (by simp [pv_cat, Value.category]) (by decide)]
  refine ⟨R.o, lawC (oC70 O) (by decide) R M (fun g1 h1 R1 M1 => ?_)⟩
  simp only [w_459, pv_catN, pv_cat1, pv_cat2, pv_cat3, pv_catL, Option.toList, List.nil_append, List.cons_append, List.append_nil, pv_rfS, pn_i, pn_r, pn_n, pn_o, true_and, and_true, Nat.le_refl, and_self, true_implies, false_implies, not_true_eq_false, not_false_eq_true, pv_b0, pv_b01, pv_bn0, pv_b1, Bool.false_eq_true, Bool.true_eq_false, Bool.not_false, Bool.not_true, pv_bT, pv_bF, eq_self, true_or, or_true, nI_1, e2, e3, e4, v1, v2, v3, v4, k1, k2, k3, k4]
  rw [w_460 (by simp [pv_cat, Value.category]) (by decide)]
  refine ⟨M1.1.o, lawM (oM135 O) (by decide) (decX_ok O) R1 M1 (fun h2 R2 M2 => ?_)⟩
  simp only [w_463, pv_catN, pv_cat1, pv_cat2, pv_cat3, pv_catL, Option.toList, List.nil_append, List.cons_append, List.append_nil, pv_rfS, pn_i, pn_r, pn_n, pn_o, true_and, and_true, Nat.le_refl, and_self, true_implies, false_implies, not_true_eq_false, not_false_eq_true, pv_b0, pv_b01, pv_bn0, pv_b1, Bool.false_eq_true, Bool.true_eq_false, Bool.not_false, Bool.not_true, pv_bT, pv_bF, eq_self, true_or, or_true]
  exact K _ _ _ R2 M2 (decX_ok O)
theorem w_case12 {L : Nat} {xs : Nat → Int32} {n : Nat} {x : SX} {g : PvG} {h : PvH} (hL : L ≤ 2560) (hn : n + 5 ≤ L) (R : RC g h x) (M : RM g h x) (O : okX x) (K : ∀ g' h' x', RC g' h' x' → RM g' h' x' → okX x' → pv_W L xs 863 [some (.ref pv_SC), some (.ref 0), some (.ref 102), some (.int (nI n))] [] 127 1724 g' h') : pv_W L xs 468 [some (.ref pv_SC), some (.ref 0), some (.ref 102), some (.int (nI n))] [] 127 1724 g h := by
  have e2 : nI n + 2 = nI (n + 2) := nI_add n 2
  have e3 : nI n + 3 = nI (n + 3) := nI_add n 3
  have e4 : nI n + 4 = nI (n + 4) := nI_add n 4
  have v1 := vp_nI (show n + 1 < L by omega) (show L < 2 ^ 31 by omega)
  have v2 := vp_nI (show n + 2 < L by omega) (show L < 2 ^ 31 by omega)
  have v3 := vp_nI (show n + 3 < L by omega) (show L < 2 ^ 31 by omega)
  have v4 := vp_nI (show n + 4 < L by omega) (show L < 2 ^ 31 by omega)
  have k1 := nI_clamp (show n + 1 < 2 ^ 31 by omega)
  have k2 := nI_clamp (show n + 2 < 2 ^ 31 by omega)
  have k3 := nI_clamp (show n + 3 < 2 ^ 31 by omega)
  have k4 := nI_clamp (show n + 4 < 2 ^ 31 by omega)
  simp only [w_468, w_469, w_470, w_471, w_472, w_473, w_474, w_475, w_476, w_477, w_478, pv_catN, pv_cat1, pv_cat2, pv_cat3, pv_catL, Option.toList, List.nil_append, List.cons_append, List.append_nil, pv_rfS, pn_i, pn_r, pn_n, pn_o, true_and, and_true, Nat.le_refl, and_self, true_implies, false_implies, not_true_eq_false, not_false_eq_true, pv_b0, pv_b01, pv_bn0, pv_b1, Bool.false_eq_true, Bool.true_eq_false, Bool.not_false, Bool.not_true, pv_bT, pv_bF, eq_self, true_or, or_true, nI_1, e2, e3, e4, v1, v2, v3, v4, k1, k2, k3, k4]
  rw [w_479 (by simp [pv_cat, Value.category]) (by decide)]
  refine ⟨R.o, lawC (oC71 O _ _) (by decide) R M (fun g1 h1 R1 M1 => ?_)⟩
  simp only [w_482, w_483, w_484, w_485, w_486, w_487, w_488, w_489, w_490, w_491, w_492, pv_catN, pv_cat1, pv_cat2, pv_cat3, pv_catL, Option.toList, List.nil_append, List.cons_append, List.append_nil, pv_rfS, pn_i, pn_r, pn_n, pn_o, true_and, and_true, Nat.le_refl, and_self, true_implies, false_implies, not_true_eq_false, not_false_eq_true, pv_b0, pv_b01, pv_bn0, pv_b1, Bool.false_eq_true, Bool.true_eq_false, Bool.not_false, Bool.not_true, pv_bT, pv_bF, eq_self, true_or, or_true, nI_1, e2, e3, e4, v1, v2, v3, v4, k1, k2, k3, k4]
  rw [w_493 (by simp [pv_cat, Value.category]) (by decide)]
  refine ⟨M1.1.o, lawM (oM137 O _ _) (by decide) (ancX_ok O _ _) R1 M1 (fun h2 R2 M2 => ?_)⟩
  simp only [w_496, pv_catN, pv_cat1, pv_cat2, pv_cat3, pv_catL, Option.toList, List.nil_append, List.cons_append, List.append_nil, pv_rfS, pn_i, pn_r, pn_n, pn_o, true_and, and_true, Nat.le_refl, and_self, true_implies, false_implies, not_true_eq_false, not_false_eq_true, pv_b0, pv_b01, pv_bn0, pv_b1, Bool.false_eq_true, Bool.true_eq_false, Bool.not_false, Bool.not_true, pv_bT, pv_bF, eq_self, true_or, or_true]
  exact K _ _ _ R2 M2 (ancX_ok O _ _)
theorem w_case13 {L : Nat} {xs : Nat → Int32} {n : Nat} {x : SX} {g : PvG} {h : PvH} (hL : L ≤ 2560) (hn : n + 5 ≤ L) (R : RC g h x) (M : RM g h x) (O : okX x) (K : ∀ g' h' x', RC g' h' x' → RM g' h' x' → okX x' → pv_W L xs 863 [some (.ref pv_SC), some (.ref 0), some (.ref 102), some (.int (nI n))] [] 127 1724 g' h') : pv_W L xs 501 [some (.ref pv_SC), some (.ref 0), some (.ref 102), some (.int (nI n))] [] 127 1724 g h := by
  have e2 : nI n + 2 = nI (n + 2) := nI_add n 2
  have e3 : nI n + 3 = nI (n + 3) := nI_add n 3
  have e4 : nI n + 4 = nI (n + 4) := nI_add n 4
  have v1 := vp_nI (show n + 1 < L by omega) (show L < 2 ^ 31 by omega)
  have v2 := vp_nI (show n + 2 < L by omega) (show L < 2 ^ 31 by omega)
  have v3 := vp_nI (show n + 3 < L by omega) (show L < 2 ^ 31 by omega)
  have v4 := vp_nI (show n + 4 < L by omega) (show L < 2 ^ 31 by omega)
  have k1 := nI_clamp (show n + 1 < 2 ^ 31 by omega)
  have k2 := nI_clamp (show n + 2 < 2 ^ 31 by omega)
  have k3 := nI_clamp (show n + 3 < 2 ^ 31 by omega)
  have k4 := nI_clamp (show n + 4 < 2 ^ 31 by omega)
  simp only [w_501, pv_catN, pv_cat1, pv_cat2, pv_cat3, pv_catL, Option.toList, List.nil_append, List.cons_append, List.append_nil, pv_rfS, pn_i, pn_r, pn_n, pn_o, true_and, and_true, Nat.le_refl, and_self, true_implies, false_implies, not_true_eq_false, not_false_eq_true, pv_b0, pv_b01, pv_bn0, pv_b1, Bool.false_eq_true, Bool.true_eq_false, Bool.not_false, Bool.not_true, pv_bT, pv_bF, eq_self, true_or, or_true, nI_1, e2, e3, e4, v1, v2, v3, v4, k1, k2, k3, k4]
  rw [w_502 (by simp [pv_cat, Value.category]) (by decide)]
  refine ⟨R.o, lawC (oC72 O) (by decide) R M (fun g1 h1 R1 M1 => ?_)⟩
  simp only [w_505, pv_catN, pv_cat1, pv_cat2, pv_cat3, pv_catL, Option.toList, List.nil_append, List.cons_append, List.append_nil, pv_rfS, pn_i, pn_r, pn_n, pn_o, true_and, and_true, Nat.le_refl, and_self, true_implies, false_implies, not_true_eq_false, not_false_eq_true, pv_b0, pv_b01, pv_bn0, pv_b1, Bool.false_eq_true, Bool.true_eq_false, Bool.not_false, Bool.not_true, pv_bT, pv_bF, eq_self, true_or, or_true, nI_1, e2, e3, e4, v1, v2, v3, v4, k1, k2, k3, k4]
  rw [w_506 (by simp [pv_cat, Value.category]) (by decide)]
  refine ⟨M1.1.o, lawM (oM138 O) (by decide) (undoX_ok O) R1 M1 (fun h2 R2 M2 => ?_)⟩
  simp only [w_509, pv_catN, pv_cat1, pv_cat2, pv_cat3, pv_catL, Option.toList, List.nil_append, List.cons_append, List.append_nil, pv_rfS, pn_i, pn_r, pn_n, pn_o, true_and, and_true, Nat.le_refl, and_self, true_implies, false_implies, not_true_eq_false, not_false_eq_true, pv_b0, pv_b01, pv_bn0, pv_b1, Bool.false_eq_true, Bool.true_eq_false, Bool.not_false, Bool.not_true, pv_bT, pv_bF, eq_self, true_or, or_true]
  exact K _ _ _ R2 M2 (undoX_ok O)
theorem w_case14 {L : Nat} {xs : Nat → Int32} {n : Nat} {x : SX} {g : PvG} {h : PvH} (hL : L ≤ 2560) (hn : n + 5 ≤ L) (R : RC g h x) (M : RM g h x) (O : okX x) (K : ∀ g' h' x', RC g' h' x' → RM g' h' x' → okX x' → pv_W L xs 863 [some (.ref pv_SC), some (.ref 0), some (.ref 102), some (.int (nI n))] [] 127 1724 g' h') : pv_W L xs 514 [some (.ref pv_SC), some (.ref 0), some (.ref 102), some (.int (nI n))] [] 127 1724 g h := by
  have e2 : nI n + 2 = nI (n + 2) := nI_add n 2
  have e3 : nI n + 3 = nI (n + 3) := nI_add n 3
  have e4 : nI n + 4 = nI (n + 4) := nI_add n 4
  have v1 := vp_nI (show n + 1 < L by omega) (show L < 2 ^ 31 by omega)
  have v2 := vp_nI (show n + 2 < L by omega) (show L < 2 ^ 31 by omega)
  have v3 := vp_nI (show n + 3 < L by omega) (show L < 2 ^ 31 by omega)
  have v4 := vp_nI (show n + 4 < L by omega) (show L < 2 ^ 31 by omega)
  have k1 := nI_clamp (show n + 1 < 2 ^ 31 by omega)
  have k2 := nI_clamp (show n + 2 < 2 ^ 31 by omega)
  have k3 := nI_clamp (show n + 3 < 2 ^ 31 by omega)
  have k4 := nI_clamp (show n + 4 < 2 ^ 31 by omega)
  simp only [w_514, w_515, w_516, w_517, w_518, w_519, pv_catN, pv_cat1, pv_cat2, pv_cat3, pv_catL, Option.toList, List.nil_append, List.cons_append, List.append_nil, pv_rfS, pn_i, pn_r, pn_n, pn_o, true_and, and_true, Nat.le_refl, and_self, true_implies, false_implies, not_true_eq_false, not_false_eq_true, pv_b0, pv_b01, pv_bn0, pv_b1, Bool.false_eq_true, Bool.true_eq_false, Bool.not_false, Bool.not_true, pv_bT, pv_bF, eq_self, true_or, or_true, nI_1, e2, e3, e4, v1, v2, v3, v4, k1, k2, k3, k4]
  rw [w_520 (by simp [pv_cat, Value.category]) (by decide)]
  refine ⟨R.o, lawC (oC73 O _) (by decide) R M (fun g1 h1 R1 M1 => ?_)⟩
  simp only [w_523, w_524, w_525, w_526, w_527, w_528, pv_catN, pv_cat1, pv_cat2, pv_cat3, pv_catL, Option.toList, List.nil_append, List.cons_append, List.append_nil, pv_rfS, pn_i, pn_r, pn_n, pn_o, true_and, and_true, Nat.le_refl, and_self, true_implies, false_implies, not_true_eq_false, not_false_eq_true, pv_b0, pv_b01, pv_bn0, pv_b1, Bool.false_eq_true, Bool.true_eq_false, Bool.not_false, Bool.not_true, pv_bT, pv_bF, eq_self, true_or, or_true, nI_1, e2, e3, e4, v1, v2, v3, v4, k1, k2, k3, k4]
  rw [w_529 (by simp [pv_cat, Value.category]) (by decide)]
  refine ⟨M1.1.o, lawM (oM148 O _) (by decide) (O) R1 M1 (fun h2 R2 M2 => ?_)⟩
  simp only [w_532, pv_catN, pv_cat1, pv_cat2, pv_cat3, pv_catL, Option.toList, List.nil_append, List.cons_append, List.append_nil, pv_rfS, pn_i, pn_r, pn_n, pn_o, true_and, and_true, Nat.le_refl, and_self, true_implies, false_implies, not_true_eq_false, not_false_eq_true, pv_b0, pv_b01, pv_bn0, pv_b1, Bool.false_eq_true, Bool.true_eq_false, Bool.not_false, Bool.not_true, pv_bT, pv_bF, eq_self, true_or, or_true]
  exact K _ _ _ R2 M2 (O)
theorem w_case15 {L : Nat} {xs : Nat → Int32} {n : Nat} {x : SX} {g : PvG} {h : PvH} (hL : L ≤ 2560) (hn : n + 5 ≤ L) (R : RC g h x) (M : RM g h x) (O : okX x) (K : ∀ g' h' x', RC g' h' x' → RM g' h' x' → okX x' → pv_W L xs 863 [some (.ref pv_SC), some (.ref 0), some (.ref 102), some (.int (nI n))] [] 127 1724 g' h') : pv_W L xs 537 [some (.ref pv_SC), some (.ref 0), some (.ref 102), some (.int (nI n))] [] 127 1724 g h := by
  have e2 : nI n + 2 = nI (n + 2) := nI_add n 2
  have e3 : nI n + 3 = nI (n + 3) := nI_add n 3
  have e4 : nI n + 4 = nI (n + 4) := nI_add n 4
  have v1 := vp_nI (show n + 1 < L by omega) (show L < 2 ^ 31 by omega)
  have v2 := vp_nI (show n + 2 < L by omega) (show L < 2 ^ 31 by omega)
  have v3 := vp_nI (show n + 3 < L by omega) (show L < 2 ^ 31 by omega)
  have v4 := vp_nI (show n + 4 < L by omega) (show L < 2 ^ 31 by omega)
  have k1 := nI_clamp (show n + 1 < 2 ^ 31 by omega)
  have k2 := nI_clamp (show n + 2 < 2 ^ 31 by omega)
  have k3 := nI_clamp (show n + 3 < 2 ^ 31 by omega)
  have k4 := nI_clamp (show n + 4 < 2 ^ 31 by omega)
  simp only [w_537, w_538, w_539, w_540, w_541, w_542, pv_catN, pv_cat1, pv_cat2, pv_cat3, pv_catL, Option.toList, List.nil_append, List.cons_append, List.append_nil, pv_rfS, pn_i, pn_r, pn_n, pn_o, true_and, and_true, Nat.le_refl, and_self, true_implies, false_implies, not_true_eq_false, not_false_eq_true, pv_b0, pv_b01, pv_bn0, pv_b1, Bool.false_eq_true, Bool.true_eq_false, Bool.not_false, Bool.not_true, pv_bT, pv_bF, eq_self, true_or, or_true, nI_1, e2, e3, e4, v1, v2, v3, v4, k1, k2, k3, k4]
  rw [w_543 (by simp [pv_cat, Value.category]) (by decide)]
  refine ⟨R.o, lawC (oC74 O _) (by decide) R M (fun g1 h1 R1 M1 => ?_)⟩
  simp only [w_546, w_547, w_548, w_549, w_550, w_551, pv_catN, pv_cat1, pv_cat2, pv_cat3, pv_catL, Option.toList, List.nil_append, List.cons_append, List.append_nil, pv_rfS, pn_i, pn_r, pn_n, pn_o, true_and, and_true, Nat.le_refl, and_self, true_implies, false_implies, not_true_eq_false, not_false_eq_true, pv_b0, pv_b01, pv_bn0, pv_b1, Bool.false_eq_true, Bool.true_eq_false, Bool.not_false, Bool.not_true, pv_bT, pv_bF, eq_self, true_or, or_true, nI_1, e2, e3, e4, v1, v2, v3, v4, k1, k2, k3, k4]
  rw [w_552 (by simp [pv_cat, Value.category]) (by decide)]
  refine ⟨M1.1.o, lawM (oM149 O _) (by decide) (O) R1 M1 (fun h2 R2 M2 => ?_)⟩
  simp only [w_555, pv_catN, pv_cat1, pv_cat2, pv_cat3, pv_catL, Option.toList, List.nil_append, List.cons_append, List.append_nil, pv_rfS, pn_i, pn_r, pn_n, pn_o, true_and, and_true, Nat.le_refl, and_self, true_implies, false_implies, not_true_eq_false, not_false_eq_true, pv_b0, pv_b01, pv_bn0, pv_b1, Bool.false_eq_true, Bool.true_eq_false, Bool.not_false, Bool.not_true, pv_bT, pv_bF, eq_self, true_or, or_true]
  exact K _ _ _ R2 M2 (O)
theorem w_case16 {L : Nat} {xs : Nat → Int32} {n : Nat} {x : SX} {g : PvG} {h : PvH} (hL : L ≤ 2560) (hn : n + 5 ≤ L) (R : RC g h x) (M : RM g h x) (O : okX x) (K : ∀ g' h' x', RC g' h' x' → RM g' h' x' → okX x' → pv_W L xs 863 [some (.ref pv_SC), some (.ref 0), some (.ref 102), some (.int (nI n))] [] 127 1724 g' h') : pv_W L xs 560 [some (.ref pv_SC), some (.ref 0), some (.ref 102), some (.int (nI n))] [] 127 1724 g h := by
  have e2 : nI n + 2 = nI (n + 2) := nI_add n 2
  have e3 : nI n + 3 = nI (n + 3) := nI_add n 3
  have e4 : nI n + 4 = nI (n + 4) := nI_add n 4
  have v1 := vp_nI (show n + 1 < L by omega) (show L < 2 ^ 31 by omega)
  have v2 := vp_nI (show n + 2 < L by omega) (show L < 2 ^ 31 by omega)
  have v3 := vp_nI (show n + 3 < L by omega) (show L < 2 ^ 31 by omega)
  have v4 := vp_nI (show n + 4 < L by omega) (show L < 2 ^ 31 by omega)
  have k1 := nI_clamp (show n + 1 < 2 ^ 31 by omega)
  have k2 := nI_clamp (show n + 2 < 2 ^ 31 by omega)
  have k3 := nI_clamp (show n + 3 < 2 ^ 31 by omega)
  have k4 := nI_clamp (show n + 4 < 2 ^ 31 by omega)
  simp only [w_560, w_561, w_562, w_563, w_564, w_565, w_566, w_567, w_568, w_569, w_570, pv_catN, pv_cat1, pv_cat2, pv_cat3, pv_catL, Option.toList, List.nil_append, List.cons_append, List.append_nil, pv_rfS, pn_i, pn_r, pn_n, pn_o, true_and, and_true, Nat.le_refl, and_self, true_implies, false_implies, not_true_eq_false, not_false_eq_true, pv_b0, pv_b01, pv_bn0, pv_b1, Bool.false_eq_true, Bool.true_eq_false, Bool.not_false, Bool.not_true, pv_bT, pv_bF, eq_self, true_or, or_true, nI_1, e2, e3, e4, v1, v2, v3, v4, k1, k2, k3, k4]
  rw [w_571 (by simp [pv_cat, Value.category]) (by decide)]
  refine ⟨R.o, lawC (oC75 O _ _) (by decide) R M (fun g1 h1 R1 M1 => ?_)⟩
  simp only [w_574, w_575, w_576, w_577, w_578, w_579, w_580, w_581, w_582, w_583, w_584, pv_catN, pv_cat1, pv_cat2, pv_cat3, pv_catL, Option.toList, List.nil_append, List.cons_append, List.append_nil, pv_rfS, pn_i, pn_r, pn_n, pn_o, true_and, and_true, Nat.le_refl, and_self, true_implies, false_implies, not_true_eq_false, not_false_eq_true, pv_b0, pv_b01, pv_bn0, pv_b1, Bool.false_eq_true, Bool.true_eq_false, Bool.not_false, Bool.not_true, pv_bT, pv_bF, eq_self, true_or, or_true, nI_1, e2, e3, e4, v1, v2, v3, v4, k1, k2, k3, k4]
  rw [w_585 (by simp [pv_cat, Value.category]) (by decide)]
  refine ⟨M1.1.o, lawM (oM150 O _ _) (by decide) (O) R1 M1 (fun h2 R2 M2 => ?_)⟩
  simp only [w_588, pv_catN, pv_cat1, pv_cat2, pv_cat3, pv_catL, Option.toList, List.nil_append, List.cons_append, List.append_nil, pv_rfS, pn_i, pn_r, pn_n, pn_o, true_and, and_true, Nat.le_refl, and_self, true_implies, false_implies, not_true_eq_false, not_false_eq_true, pv_b0, pv_b01, pv_bn0, pv_b1, Bool.false_eq_true, Bool.true_eq_false, Bool.not_false, Bool.not_true, pv_bT, pv_bF, eq_self, true_or, or_true]
  exact K _ _ _ R2 M2 (O)
theorem w_case17 {L : Nat} {xs : Nat → Int32} {n : Nat} {x : SX} {g : PvG} {h : PvH} (hL : L ≤ 2560) (hn : n + 5 ≤ L) (R : RC g h x) (M : RM g h x) (O : okX x) (K : ∀ g' h' x', RC g' h' x' → RM g' h' x' → okX x' → pv_W L xs 863 [some (.ref pv_SC), some (.ref 0), some (.ref 102), some (.int (nI n))] [] 127 1724 g' h') : pv_W L xs 593 [some (.ref pv_SC), some (.ref 0), some (.ref 102), some (.int (nI n))] [] 127 1724 g h := by
  have e2 : nI n + 2 = nI (n + 2) := nI_add n 2
  have e3 : nI n + 3 = nI (n + 3) := nI_add n 3
  have e4 : nI n + 4 = nI (n + 4) := nI_add n 4
  have v1 := vp_nI (show n + 1 < L by omega) (show L < 2 ^ 31 by omega)
  have v2 := vp_nI (show n + 2 < L by omega) (show L < 2 ^ 31 by omega)
  have v3 := vp_nI (show n + 3 < L by omega) (show L < 2 ^ 31 by omega)
  have v4 := vp_nI (show n + 4 < L by omega) (show L < 2 ^ 31 by omega)
  have k1 := nI_clamp (show n + 1 < 2 ^ 31 by omega)
  have k2 := nI_clamp (show n + 2 < 2 ^ 31 by omega)
  have k3 := nI_clamp (show n + 3 < 2 ^ 31 by omega)
  have k4 := nI_clamp (show n + 4 < 2 ^ 31 by omega)
  simp only [w_593, pv_catN, pv_cat1, pv_cat2, pv_cat3, pv_catL, Option.toList, List.nil_append, List.cons_append, List.append_nil, pv_rfS, pn_i, pn_r, pn_n, pn_o, true_and, and_true, Nat.le_refl, and_self, true_implies, false_implies, not_true_eq_false, not_false_eq_true, pv_b0, pv_b01, pv_bn0, pv_b1, Bool.false_eq_true, Bool.true_eq_false, Bool.not_false, Bool.not_true, pv_bT, pv_bF, eq_self, true_or, or_true, nI_1, e2, e3, e4, v1, v2, v3, v4, k1, k2, k3, k4]
  rw [w_594 (by simp [pv_cat, Value.category]) (by decide)]
  refine ⟨R.o, lawC (oC76 O) (by decide) R M (fun g1 h1 R1 M1 => ?_)⟩
  simp only [w_597, pv_catN, pv_cat1, pv_cat2, pv_cat3, pv_catL, Option.toList, List.nil_append, List.cons_append, List.append_nil, pv_rfS, pn_i, pn_r, pn_n, pn_o, true_and, and_true, Nat.le_refl, and_self, true_implies, false_implies, not_true_eq_false, not_false_eq_true, pv_b0, pv_b01, pv_bn0, pv_b1, Bool.false_eq_true, Bool.true_eq_false, Bool.not_false, Bool.not_true, pv_bT, pv_bF, eq_self, true_or, or_true, nI_1, e2, e3, e4, v1, v2, v3, v4, k1, k2, k3, k4]
  rw [w_598 (by simp [pv_cat, Value.category]) (by decide)]
  refine ⟨M1.1.o, lawM (oM152 O) (by decide) (O) R1 M1 (fun h2 R2 M2 => ?_)⟩
  simp only [w_601, pv_catN, pv_cat1, pv_cat2, pv_cat3, pv_catL, Option.toList, List.nil_append, List.cons_append, List.append_nil, pv_rfS, pn_i, pn_r, pn_n, pn_o, true_and, and_true, Nat.le_refl, and_self, true_implies, false_implies, not_true_eq_false, not_false_eq_true, pv_b0, pv_b01, pv_bn0, pv_b1, Bool.false_eq_true, Bool.true_eq_false, Bool.not_false, Bool.not_true, pv_bT, pv_bF, eq_self, true_or, or_true]
  exact K _ _ _ R2 M2 (O)
theorem w_case18 {L : Nat} {xs : Nat → Int32} {n : Nat} {x : SX} {g : PvG} {h : PvH} (hL : L ≤ 2560) (hn : n + 5 ≤ L) (R : RC g h x) (M : RM g h x) (O : okX x) (K : ∀ g' h' x', RC g' h' x' → RM g' h' x' → okX x' → pv_W L xs 863 [some (.ref pv_SC), some (.ref 0), some (.ref 102), some (.int (nI n))] [] 127 1724 g' h') : pv_W L xs 606 [some (.ref pv_SC), some (.ref 0), some (.ref 102), some (.int (nI n))] [] 127 1724 g h := by
  have e2 : nI n + 2 = nI (n + 2) := nI_add n 2
  have e3 : nI n + 3 = nI (n + 3) := nI_add n 3
  have e4 : nI n + 4 = nI (n + 4) := nI_add n 4
  have v1 := vp_nI (show n + 1 < L by omega) (show L < 2 ^ 31 by omega)
  have v2 := vp_nI (show n + 2 < L by omega) (show L < 2 ^ 31 by omega)
  have v3 := vp_nI (show n + 3 < L by omega) (show L < 2 ^ 31 by omega)
  have v4 := vp_nI (show n + 4 < L by omega) (show L < 2 ^ 31 by omega)
  have k1 := nI_clamp (show n + 1 < 2 ^ 31 by omega)
  have k2 := nI_clamp (show n + 2 < 2 ^ 31 by omega)
  have k3 := nI_clamp (show n + 3 < 2 ^ 31 by omega)
  have k4 := nI_clamp (show n + 4 < 2 ^ 31 by omega)
  simp only [w_606, w_607, w_608, w_609, w_610, w_611, w_612, w_613, w_614, w_615, w_616, pv_catN, pv_cat1, pv_cat2, pv_cat3, pv_catL, Option.toList, List.nil_append, List.cons_append, List.append_nil, pv_rfS, pn_i, pn_r, pn_n, pn_o, true_and, and_true, Nat.le_refl, and_self, true_implies, false_implies, not_true_eq_false, not_false_eq_true, pv_b0, pv_b01, pv_bn0, pv_b1, Bool.false_eq_true, Bool.true_eq_false, Bool.not_false, Bool.not_true, pv_bT, pv_bF, eq_self, true_or, or_true, nI_1, e2, e3, e4, v1, v2, v3, v4, k1, k2, k3, k4]
  rw [w_617 (by simp [pv_cat, Value.category]) (by decide)]
  refine ⟨R.o, lawC (oC77 O _ _) (by decide) R M (fun g1 h1 R1 M1 => ?_)⟩
  simp only [w_620, w_621, w_622, w_623, w_624, w_625, w_626, w_627, w_628, w_629, w_630, pv_catN, pv_cat1, pv_cat2, pv_cat3, pv_catL, Option.toList, List.nil_append, List.cons_append, List.append_nil, pv_rfS, pn_i, pn_r, pn_n, pn_o, true_and, and_true, Nat.le_refl, and_self, true_implies, false_implies, not_true_eq_false, not_false_eq_true, pv_b0, pv_b01, pv_bn0, pv_b1, Bool.false_eq_true, Bool.true_eq_false, Bool.not_false, Bool.not_true, pv_bT, pv_bF, eq_self, true_or, or_true, nI_1, e2, e3, e4, v1, v2, v3, v4, k1, k2, k3, k4]
  rw [w_631 (by simp [pv_cat, Value.category]) (by decide)]
  refine ⟨M1.1.o, lawM (oM153 O _ _) (by decide) (idxX_ok O _ _) R1 M1 (fun h2 R2 M2 => ?_)⟩
  simp only [w_634, pv_catN, pv_cat1, pv_cat2, pv_cat3, pv_catL, Option.toList, List.nil_append, List.cons_append, List.append_nil, pv_rfS, pn_i, pn_r, pn_n, pn_o, true_and, and_true, Nat.le_refl, and_self, true_implies, false_implies, not_true_eq_false, not_false_eq_true, pv_b0, pv_b01, pv_bn0, pv_b1, Bool.false_eq_true, Bool.true_eq_false, Bool.not_false, Bool.not_true, pv_bT, pv_bF, eq_self, true_or, or_true]
  exact K _ _ _ R2 M2 (idxX_ok O _ _)
theorem w_case19 {L : Nat} {xs : Nat → Int32} {n : Nat} {x : SX} {g : PvG} {h : PvH} (hL : L ≤ 2560) (hn : n + 5 ≤ L) (R : RC g h x) (M : RM g h x) (O : okX x) (K : ∀ g' h' x', RC g' h' x' → RM g' h' x' → okX x' → pv_W L xs 863 [some (.ref pv_SC), some (.ref 0), some (.ref 102), some (.int (nI n))] [] 127 1724 g' h') : pv_W L xs 639 [some (.ref pv_SC), some (.ref 0), some (.ref 102), some (.int (nI n))] [] 127 1724 g h := by
  have e2 : nI n + 2 = nI (n + 2) := nI_add n 2
  have e3 : nI n + 3 = nI (n + 3) := nI_add n 3
  have e4 : nI n + 4 = nI (n + 4) := nI_add n 4
  have v1 := vp_nI (show n + 1 < L by omega) (show L < 2 ^ 31 by omega)
  have v2 := vp_nI (show n + 2 < L by omega) (show L < 2 ^ 31 by omega)
  have v3 := vp_nI (show n + 3 < L by omega) (show L < 2 ^ 31 by omega)
  have v4 := vp_nI (show n + 4 < L by omega) (show L < 2 ^ 31 by omega)
  have k1 := nI_clamp (show n + 1 < 2 ^ 31 by omega)
  have k2 := nI_clamp (show n + 2 < 2 ^ 31 by omega)
  have k3 := nI_clamp (show n + 3 < 2 ^ 31 by omega)
  have k4 := nI_clamp (show n + 4 < 2 ^ 31 by omega)
  simp only [w_639, w_640, w_641, w_642, w_643, w_644, pv_catN, pv_cat1, pv_cat2, pv_cat3, pv_catL, Option.toList, List.nil_append, List.cons_append, List.append_nil, pv_rfS, pn_i, pn_r, pn_n, pn_o, true_and, and_true, Nat.le_refl, and_self, true_implies, false_implies, not_true_eq_false, not_false_eq_true, pv_b0, pv_b01, pv_bn0, pv_b1, Bool.false_eq_true, Bool.true_eq_false, Bool.not_false, Bool.not_true, pv_bT, pv_bF, eq_self, true_or, or_true, nI_1, e2, e3, e4, v1, v2, v3, v4, k1, k2, k3, k4]
  rw [w_645 (by simp [pv_cat, Value.category]) (by decide)]
  refine ⟨R.o, lawC (oC78 O _) (by decide) R M (fun g1 h1 R1 M1 => ?_)⟩
  simp only [w_648, w_649, w_650, w_651, w_652, w_653, pv_catN, pv_cat1, pv_cat2, pv_cat3, pv_catL, Option.toList, List.nil_append, List.cons_append, List.append_nil, pv_rfS, pn_i, pn_r, pn_n, pn_o, true_and, and_true, Nat.le_refl, and_self, true_implies, false_implies, not_true_eq_false, not_false_eq_true, pv_b0, pv_b01, pv_bn0, pv_b1, Bool.false_eq_true, Bool.true_eq_false, Bool.not_false, Bool.not_true, pv_bT, pv_bF, eq_self, true_or, or_true, nI_1, e2, e3, e4, v1, v2, v3, v4, k1, k2, k3, k4]
  rw [w_654 (by simp [pv_cat, Value.category]) (by decide)]
  refine ⟨M1.1.o, lawM (oM154 O _) (by decide) (O) R1 M1 (fun h2 R2 M2 => ?_)⟩
  simp only [w_657, pv_catN, pv_cat1, pv_cat2, pv_cat3, pv_catL, Option.toList, List.nil_append, List.cons_append, List.append_nil, pv_rfS, pn_i, pn_r, pn_n, pn_o, true_and, and_true, Nat.le_refl, and_self, true_implies, false_implies, not_true_eq_false, not_false_eq_true, pv_b0, pv_b01, pv_bn0, pv_b1, Bool.false_eq_true, Bool.true_eq_false, Bool.not_false, Bool.not_true, pv_bT, pv_bF, eq_self, true_or, or_true]
  exact K _ _ _ R2 M2 (O)
theorem w_case20 {L : Nat} {xs : Nat → Int32} {n : Nat} {x : SX} {g : PvG} {h : PvH} (hL : L ≤ 2560) (hn : n + 5 ≤ L) (R : RC g h x) (M : RM g h x) (O : okX x) (K : ∀ g' h' x', RC g' h' x' → RM g' h' x' → okX x' → pv_W L xs 863 [some (.ref pv_SC), some (.ref 0), some (.ref 102), some (.int (nI n))] [] 127 1724 g' h') : pv_W L xs 662 [some (.ref pv_SC), some (.ref 0), some (.ref 102), some (.int (nI n))] [] 127 1724 g h := by
  have e2 : nI n + 2 = nI (n + 2) := nI_add n 2
  have e3 : nI n + 3 = nI (n + 3) := nI_add n 3
  have e4 : nI n + 4 = nI (n + 4) := nI_add n 4
  have v1 := vp_nI (show n + 1 < L by omega) (show L < 2 ^ 31 by omega)
  have v2 := vp_nI (show n + 2 < L by omega) (show L < 2 ^ 31 by omega)
  have v3 := vp_nI (show n + 3 < L by omega) (show L < 2 ^ 31 by omega)
  have v4 := vp_nI (show n + 4 < L by omega) (show L < 2 ^ 31 by omega)
  have k1 := nI_clamp (show n + 1 < 2 ^ 31 by omega)
  have k2 := nI_clamp (show n + 2 < 2 ^ 31 by omega)
  have k3 := nI_clamp (show n + 3 < 2 ^ 31 by omega)
  have k4 := nI_clamp (show n + 4 < 2 ^ 31 by omega)
  by_cases c : xs (n + 1) = 0
  · have c : (xs (n + 1) = 0) = True := eq_true c
    simp only [w_662, w_663, w_664, w_665, w_666, w_667, w_668, w_671, w_672, w_675, pv_catN, pv_cat1, pv_cat2, pv_cat3, pv_catL, Option.toList, List.nil_append, List.cons_append, List.append_nil, pv_rfS, pn_i, pn_r, pn_n, pn_o, true_and, and_true, Nat.le_refl, and_self, true_implies, false_implies, not_true_eq_false, not_false_eq_true, pv_b0, pv_b01, pv_bn0, pv_b1, Bool.false_eq_true, Bool.true_eq_false, Bool.not_false, Bool.not_true, pv_bT, pv_bF, eq_self, true_or, or_true, nI_1, e2, e3, e4, v1, v2, v3, v4, k1, k2, k3, k4, c]
    rw [w_676 (by simp [pv_cat, Value.category]) (by decide)]
    refine ⟨R.o, lawC (oC79 O false) (by decide) R M (fun g1 h1 R1 M1 => ?_)⟩
    simp only [w_679, w_680, w_681, w_682, w_683, w_684, w_685, w_688, w_689, w_692, pv_catN, pv_cat1, pv_cat2, pv_cat3, pv_catL, Option.toList, List.nil_append, List.cons_append, List.append_nil, pv_rfS, pn_i, pn_r, pn_n, pn_o, true_and, and_true, Nat.le_refl, and_self, true_implies, false_implies, not_true_eq_false, not_false_eq_true, pv_b0, pv_b01, pv_bn0, pv_b1, Bool.false_eq_true, Bool.true_eq_false, Bool.not_false, Bool.not_true, pv_bT, pv_bF, eq_self, true_or, or_true, nI_1, e2, e3, e4, v1, v2, v3, v4, k1, k2, k3, k4, c]
    rw [w_693 (by simp [pv_cat, Value.category]) (by decide)]
    refine ⟨M1.1.o, lawM (oM157 O false) (by decide) (O) R1 M1 (fun h2 R2 M2 => ?_)⟩
    simp only [w_696, pv_catN, pv_cat1, pv_cat2, pv_cat3, pv_catL, Option.toList, List.nil_append, List.cons_append, List.append_nil, pv_rfS, pn_i, pn_r, pn_n, pn_o, true_and, and_true, Nat.le_refl, and_self, true_implies, false_implies, not_true_eq_false, not_false_eq_true, pv_b0, pv_b01, pv_bn0, pv_b1, Bool.false_eq_true, Bool.true_eq_false, Bool.not_false, Bool.not_true, pv_bT, pv_bF, eq_self, true_or, or_true]
    exact K _ _ _ R2 M2 (O)
  · have c : (xs (n + 1) = 0) = False := eq_false c
    simp only [w_662, w_663, w_664, w_665, w_666, w_667, w_668, w_671, w_672, w_675, pv_catN, pv_cat1, pv_cat2, pv_cat3, pv_catL, Option.toList, List.nil_append, List.cons_append, List.append_nil, pv_rfS, pn_i, pn_r, pn_n, pn_o, true_and, and_true, Nat.le_refl, and_self, true_implies, false_implies, not_true_eq_false, not_false_eq_true, pv_b0, pv_b01, pv_bn0, pv_b1, Bool.false_eq_true, Bool.true_eq_false, Bool.not_false, Bool.not_true, pv_bT, pv_bF, eq_self, true_or, or_true, nI_1, e2, e3, e4, v1, v2, v3, v4, k1, k2, k3, k4, c]
    rw [w_676 (by simp [pv_cat, Value.category]) (by decide)]
    refine ⟨R.o, lawC (oC79 O true) (by decide) R M (fun g1 h1 R1 M1 => ?_)⟩
    simp only [w_679, w_680, w_681, w_682, w_683, w_684, w_685, w_688, w_689, w_692, pv_catN, pv_cat1, pv_cat2, pv_cat3, pv_catL, Option.toList, List.nil_append, List.cons_append, List.append_nil, pv_rfS, pn_i, pn_r, pn_n, pn_o, true_and, and_true, Nat.le_refl, and_self, true_implies, false_implies, not_true_eq_false, not_false_eq_true, pv_b0, pv_b01, pv_bn0, pv_b1, Bool.false_eq_true, Bool.true_eq_false, Bool.not_false, Bool.not_true, pv_bT, pv_bF, eq_self, true_or, or_true, nI_1, e2, e3, e4, v1, v2, v3, v4, k1, k2, k3, k4, c]
    rw [w_693 (by simp [pv_cat, Value.category]) (by decide)]
    refine ⟨M1.1.o, lawM (oM157 O true) (by decide) (O) R1 M1 (fun h2 R2 M2 => ?_)⟩
    simp only [w_696, pv_catN, pv_cat1, pv_cat2, pv_cat3, pv_catL, Option.toList, List.nil_append, List.cons_append, List.append_nil, pv_rfS, pn_i, pn_r, pn_n, pn_o, true_and, and_true, Nat.le_refl, and_self, true_implies, false_implies, not_true_eq_false, not_false_eq_true, pv_b0, pv_b01, pv_bn0, pv_b1, Bool.false_eq_true, Bool.true_eq_false, Bool.not_false, Bool.not_true, pv_bT, pv_bF, eq_self, true_or, or_true]
    exact K _ _ _ R2 M2 (O)
theorem w_case21 {L : Nat} {xs : Nat → Int32} {n : Nat} {x : SX} {g : PvG} {h : PvH} (hL : L ≤ 2560) (hn : n + 5 ≤ L) (R : RC g h x) (M : RM g h x) (O : okX x) (K : ∀ g' h' x', RC g' h' x' → RM g' h' x' → okX x' → pv_W L xs 863 [some (.ref pv_SC), some (.ref 0), some (.ref 102), some (.int (nI n))] [] 127 1724 g' h') : pv_W L xs 701 [some (.ref pv_SC), some (.ref 0), some (.ref 102), some (.int (nI n))] [] 127 1724 g h := by
  have e2 : nI n + 2 = nI (n + 2) := nI_add n 2
  have e3 : nI n + 3 = nI (n + 3) := nI_add n 3
  have e4 : nI n + 4 = nI (n + 4) := nI_add n 4
  have v1 := vp_nI (show n + 1 < L by omega) (show L < 2 ^ 31 by omega)
  have v2 := vp_nI (show n + 2 < L by omega) (show L < 2 ^ 31 by omega)
  have v3 := vp_nI (show n + 3 < L by omega) (show L < 2 ^ 31 by omega)
  have v4 := vp_nI (show n + 4 < L by omega) (show L < 2 ^ 31 by omega)
  have k1 := nI_clamp (show n + 1 < 2 ^ 31 by omega)
  have k2 := nI_clamp (show n + 2 < 2 ^ 31 by omega)
  have k3 := nI_clamp (show n + 3 < 2 ^ 31 by omega)
  have k4 := nI_clamp (show n + 4 < 2 ^ 31 by omega)
  simp only [w_701, pv_catN, pv_cat1, pv_cat2, pv_cat3, pv_catL, Option.toList, List.nil_append, List.cons_append, List.append_nil, pv_rfS, pn_i, pn_r, pn_n, pn_o, true_and, and_true, Nat.le_refl, and_self, true_implies, false_implies, not_true_eq_false, not_false_eq_true, pv_b0, pv_b01, pv_bn0, pv_b1, Bool.false_eq_true, Bool.true_eq_false, Bool.not_false, Bool.not_true, pv_bT, pv_bF, eq_self, true_or, or_true, nI_1, e2, e3, e4, v1, v2, v3, v4, k1, k2, k3, k4]
  rw [w_702 (by simp [pv_cat, Value.category]) (by decide)]
  refine ⟨R.o, lawC (oC80 O) (by decide) R M (fun g1 h1 R1 M1 => ?_)⟩
  simp only [w_705, pv_catN, pv_cat1, pv_cat2, pv_cat3, pv_catL, Option.toList, List.nil_append, List.cons_append, List.append_nil, pv_rfS, pn_i, pn_r, pn_n, pn_o, true_and, and_true, Nat.le_refl, and_self, true_implies, false_implies, not_true_eq_false, not_false_eq_true, pv_b0, pv_b01, pv_bn0, pv_b1, Bool.false_eq_true, Bool.true_eq_false, Bool.not_false, Bool.not_true, pv_bT, pv_bF, eq_self, true_or, or_true, nI_1, e2, e3, e4, v1, v2, v3, v4, k1, k2, k3, k4]
  rw [w_706 (by simp [pv_cat, Value.category]) (by decide)]
  refine ⟨M1.1.o, lawM (oM158 O) (by decide) (menX_ok O) R1 M1 (fun h2 R2 M2 => ?_)⟩
  simp only [w_709, pv_catN, pv_cat1, pv_cat2, pv_cat3, pv_catL, Option.toList, List.nil_append, List.cons_append, List.append_nil, pv_rfS, pn_i, pn_r, pn_n, pn_o, true_and, and_true, Nat.le_refl, and_self, true_implies, false_implies, not_true_eq_false, not_false_eq_true, pv_b0, pv_b01, pv_bn0, pv_b1, Bool.false_eq_true, Bool.true_eq_false, Bool.not_false, Bool.not_true, pv_bT, pv_bF, eq_self, true_or, or_true]
  exact K _ _ _ R2 M2 (menX_ok O)
theorem w_case22 {L : Nat} {xs : Nat → Int32} {n : Nat} {x : SX} {g : PvG} {h : PvH} (hL : L ≤ 2560) (hn : n + 5 ≤ L) (R : RC g h x) (M : RM g h x) (O : okX x) (K : ∀ g' h' x', RC g' h' x' → RM g' h' x' → okX x' → pv_W L xs 863 [some (.ref pv_SC), some (.ref 0), some (.ref 102), some (.int (nI n))] [] 127 1724 g' h') : pv_W L xs 714 [some (.ref pv_SC), some (.ref 0), some (.ref 102), some (.int (nI n))] [] 127 1724 g h := by
  have e2 : nI n + 2 = nI (n + 2) := nI_add n 2
  have e3 : nI n + 3 = nI (n + 3) := nI_add n 3
  have e4 : nI n + 4 = nI (n + 4) := nI_add n 4
  have v1 := vp_nI (show n + 1 < L by omega) (show L < 2 ^ 31 by omega)
  have v2 := vp_nI (show n + 2 < L by omega) (show L < 2 ^ 31 by omega)
  have v3 := vp_nI (show n + 3 < L by omega) (show L < 2 ^ 31 by omega)
  have v4 := vp_nI (show n + 4 < L by omega) (show L < 2 ^ 31 by omega)
  have k1 := nI_clamp (show n + 1 < 2 ^ 31 by omega)
  have k2 := nI_clamp (show n + 2 < 2 ^ 31 by omega)
  have k3 := nI_clamp (show n + 3 < 2 ^ 31 by omega)
  have k4 := nI_clamp (show n + 4 < 2 ^ 31 by omega)
  simp only [w_714, w_715, w_716, w_717, w_718, w_719, w_720, w_721, w_722, w_723, w_724, pv_catN, pv_cat1, pv_cat2, pv_cat3, pv_catL, Option.toList, List.nil_append, List.cons_append, List.append_nil, pv_rfS, pn_i, pn_r, pn_n, pn_o, true_and, and_true, Nat.le_refl, and_self, true_implies, false_implies, not_true_eq_false, not_false_eq_true, pv_b0, pv_b01, pv_bn0, pv_b1, Bool.false_eq_true, Bool.true_eq_false, Bool.not_false, Bool.not_true, pv_bT, pv_bF, eq_self, true_or, or_true, nI_1, e2, e3, e4, v1, v2, v3, v4, k1, k2, k3, k4]
  rw [w_725 (by simp [pv_cat, Value.category]) (by decide)]
  refine ⟨R.o, lawC (oC81 O _ _) (by decide) R M (fun g1 h1 R1 M1 => ?_)⟩
  simp only [w_728, w_729, w_730, w_731, w_732, w_733, w_734, w_735, w_736, w_737, w_738, pv_catN, pv_cat1, pv_cat2, pv_cat3, pv_catL, Option.toList, List.nil_append, List.cons_append, List.append_nil, pv_rfS, pn_i, pn_r, pn_n, pn_o, true_and, and_true, Nat.le_refl, and_self, true_implies, false_implies, not_true_eq_false, not_false_eq_true, pv_b0, pv_b01, pv_bn0, pv_b1, Bool.false_eq_true, Bool.true_eq_false, Bool.not_false, Bool.not_true, pv_bT, pv_bF, eq_self, true_or, or_true, nI_1, e2, e3, e4, v1, v2, v3, v4, k1, k2, k3, k4]
  rw [w_739 (by simp [pv_cat, Value.category]) (by decide)]
  refine ⟨M1.1.o, lawM (oM160 O _ _) (by decide) (O) R1 M1 (fun h2 R2 M2 => ?_)⟩
  simp only [w_742, pv_catN, pv_cat1, pv_cat2, pv_cat3, pv_catL, Option.toList, List.nil_append, List.cons_append, List.append_nil, pv_rfS, pn_i, pn_r, pn_n, pn_o, true_and, and_true, Nat.le_refl, and_self, true_implies, false_implies, not_true_eq_false, not_false_eq_true, pv_b0, pv_b01, pv_bn0, pv_b1, Bool.false_eq_true, Bool.true_eq_false, Bool.not_false, Bool.not_true, pv_bT, pv_bF, eq_self, true_or, or_true]
  exact K _ _ _ R2 M2 (O)
theorem w_case23 {L : Nat} {xs : Nat → Int32} {n : Nat} {x : SX} {g : PvG} {h : PvH} (hL : L ≤ 2560) (hn : n + 5 ≤ L) (R : RC g h x) (M : RM g h x) (O : okX x) (K : ∀ g' h' x', RC g' h' x' → RM g' h' x' → okX x' → pv_W L xs 863 [some (.ref pv_SC), some (.ref 0), some (.ref 102), some (.int (nI n))] [] 127 1724 g' h') : pv_W L xs 747 [some (.ref pv_SC), some (.ref 0), some (.ref 102), some (.int (nI n))] [] 127 1724 g h := by
  have e2 : nI n + 2 = nI (n + 2) := nI_add n 2
  have e3 : nI n + 3 = nI (n + 3) := nI_add n 3
  have e4 : nI n + 4 = nI (n + 4) := nI_add n 4
  have v1 := vp_nI (show n + 1 < L by omega) (show L < 2 ^ 31 by omega)
  have v2 := vp_nI (show n + 2 < L by omega) (show L < 2 ^ 31 by omega)
  have v3 := vp_nI (show n + 3 < L by omega) (show L < 2 ^ 31 by omega)
  have v4 := vp_nI (show n + 4 < L by omega) (show L < 2 ^ 31 by omega)
  have k1 := nI_clamp (show n + 1 < 2 ^ 31 by omega)
  have k2 := nI_clamp (show n + 2 < 2 ^ 31 by omega)
  have k3 := nI_clamp (show n + 3 < 2 ^ 31 by omega)
  have k4 := nI_clamp (show n + 4 < 2 ^ 31 by omega)
  by_cases c : xs (n + 4) = 0
  · have c : (xs (n + 4) = 0) = True := eq_true c
    simp only [w_747, w_748, w_749, w_750, w_751, w_752, w_753, w_754, w_755, w_756, w_757, w_758, w_759, w_760, w_761, w_762, w_763, w_764, w_765, w_766, w_767, w_768, w_771, w_772, w_775, pv_catN, pv_cat1, pv_cat2, pv_cat3, pv_catL, Option.toList, List.nil_append, List.cons_append, List.append_nil, pv_rfS, pn_i, pn_r, pn_n, pn_o, true_and, and_true, Nat.le_refl, and_self, true_implies, false_implies, not_true_eq_false, not_false_eq_true, pv_b0, pv_b01, pv_bn0, pv_b1, Bool.false_eq_true, Bool.true_eq_false, Bool.not_false, Bool.not_true, pv_bT, pv_bF, eq_self, true_or, or_true, nI_1, e2, e3, e4, v1, v2, v3, v4, k1, k2, k3, k4, c]
    rw [w_776 (by simp [pv_cat, Value.category]) (by decide)]
    refine ⟨R.o, lawC (oC82 O _ _ _ false) (by decide) R M (fun g1 h1 R1 M1 => ?_)⟩
    simp only [w_779, w_780, w_781, w_782, w_783, w_784, w_785, w_786, w_787, w_788, w_789, w_790, w_791, w_792, w_793, w_794, w_795, w_796, w_797, w_798, w_799, w_800, w_803, w_804, w_807, pv_catN, pv_cat1, pv_cat2, pv_cat3, pv_catL, Option.toList, List.nil_append, List.cons_append, List.append_nil, pv_rfS, pn_i, pn_r, pn_n, pn_o, true_and, and_true, Nat.le_refl, and_self, true_implies, false_implies, not_true_eq_false, not_false_eq_true, pv_b0, pv_b01, pv_bn0, pv_b1, Bool.false_eq_true, Bool.true_eq_false, Bool.not_false, Bool.not_true, pv_bT, pv_bF, eq_self, true_or, or_true, nI_1, e2, e3, e4, v1, v2, v3, v4, k1, k2, k3, k4, c]
    rw [w_808 (by simp [pv_cat, Value.category]) (by decide)]
    refine ⟨M1.1.o, lawM (oM162 O _ _ _ false) (by decide) (O) R1 M1 (fun h2 R2 M2 => ?_)⟩
    simp only [w_811, w_812, pv_catN, pv_cat1, pv_cat2, pv_cat3, pv_catL, Option.toList, List.nil_append, List.cons_append, List.append_nil, pv_rfS, pn_i, pn_r, pn_n, pn_o, true_and, and_true, Nat.le_refl, and_self, true_implies, false_implies, not_true_eq_false, not_false_eq_true, pv_b0, pv_b01, pv_bn0, pv_b1, Bool.false_eq_true, Bool.true_eq_false, Bool.not_false, Bool.not_true, pv_bT, pv_bF, eq_self, true_or, or_true, lcS]
    exact K _ _ _ R2 M2 (O)
  · have c : (xs (n + 4) = 0) = False := eq_false c
    simp only [w_747, w_748, w_749, w_750, w_751, w_752, w_753, w_754, w_755, w_756, w_757, w_758, w_759, w_760, w_761, w_762, w_763, w_764, w_765, w_766, w_767, w_768, w_771, w_772, w_775, pv_catN, pv_cat1, pv_cat2, pv_cat3, pv_catL, Option.toList, List.nil_append, List.cons_append, List.append_nil, pv_rfS, pn_i, pn_r, pn_n, pn_o, true_and, and_true, Nat.le_refl, and_self, true_implies, false_implies, not_true_eq_false, not_false_eq_true, pv_b0, pv_b01, pv_bn0, pv_b1, Bool.false_eq_true, Bool.true_eq_false, Bool.not_false, Bool.not_true, pv_bT, pv_bF, eq_self, true_or, or_true, nI_1, e2, e3, e4, v1, v2, v3, v4, k1, k2, k3, k4, c]
    rw [w_776 (by simp [pv_cat, Value.category]) (by decide)]
    refine ⟨R.o, lawC (oC82 O _ _ _ true) (by decide) R M (fun g1 h1 R1 M1 => ?_)⟩
    simp only [w_779, w_780, w_781, w_782, w_783, w_784, w_785, w_786, w_787, w_788, w_789, w_790, w_791, w_792, w_793, w_794, w_795, w_796, w_797, w_798, w_799, w_800, w_803, w_804, w_807, pv_catN, pv_cat1, pv_cat2, pv_cat3, pv_catL, Option.toList, List.nil_append, List.cons_append, List.append_nil, pv_rfS, pn_i, pn_r, pn_n, pn_o, true_and, and_true, Nat.le_refl, and_self, true_implies, false_implies, not_true_eq_false, not_false_eq_true, pv_b0, pv_b01, pv_bn0, pv_b1, Bool.false_eq_true, Bool.true_eq_false, Bool.not_false, Bool.not_true, pv_bT, pv_bF, eq_self, true_or, or_true, nI_1, e2, e3, e4, v1, v2, v3, v4, k1, k2, k3, k4, c]
    rw [w_808 (by simp [pv_cat, Value.category]) (by decide)]
    refine ⟨M1.1.o, lawM (oM162 O _ _ _ true) (by decide) (O) R1 M1 (fun h2 R2 M2 => ?_)⟩
    simp only [w_811, w_812, pv_catN, pv_cat1, pv_cat2, pv_cat3, pv_catL, Option.toList, List.nil_append, List.cons_append, List.append_nil, pv_rfS, pn_i, pn_r, pn_n, pn_o, true_and, and_true, Nat.le_refl, and_self, true_implies, false_implies, not_true_eq_false, not_false_eq_true, pv_b0, pv_b01, pv_bn0, pv_b1, Bool.false_eq_true, Bool.true_eq_false, Bool.not_false, Bool.not_true, pv_bT, pv_bF, eq_self, true_or, or_true, lcS]
    exact K _ _ _ R2 M2 (O)
theorem w_case24 {L : Nat} {xs : Nat → Int32} {n : Nat} {x : SX} {g : PvG} {h : PvH} (hL : L ≤ 2560) (hn : n + 5 ≤ L) (R : RC g h x) (M : RM g h x) (O : okX x) (K : ∀ g' h' x', RC g' h' x' → RM g' h' x' → okX x' → pv_W L xs 863 [some (.ref pv_SC), some (.ref 0), some (.ref 102), some (.int (nI n))] [] 127 1724 g' h') : pv_W L xs 817 [some (.ref pv_SC), some (.ref 0), some (.ref 102), some (.int (nI n))] [] 127 1724 g h := by
  have e2 : nI n + 2 = nI (n + 2) := nI_add n 2
  have e3 : nI n + 3 = nI (n + 3) := nI_add n 3
  have e4 : nI n + 4 = nI (n + 4) := nI_add n 4
  have v1 := vp_nI (show n + 1 < L by omega) (show L < 2 ^ 31 by omega)
  have v2 := vp_nI (show n + 2 < L by omega) (show L < 2 ^ 31 by omega)
  have v3 := vp_nI (show n + 3 < L by omega) (show L < 2 ^ 31 by omega)
  have v4 := vp_nI (show n + 4 < L by omega) (show L < 2 ^ 31 by omega)
  have k1 := nI_clamp (show n + 1 < 2 ^ 31 by omega)
  have k2 := nI_clamp (show n + 2 < 2 ^ 31 by omega)
  have k3 := nI_clamp (show n + 3 < 2 ^ 31 by omega)
  have k4 := nI_clamp (show n + 4 < 2 ^ 31 by omega)
  simp only [w_817, w_818, w_819, w_820, w_821, w_822, pv_catN, pv_cat1, pv_cat2, pv_cat3, pv_catL, Option.toList, List.nil_append, List.cons_append, List.append_nil, pv_rfS, pn_i, pn_r, pn_n, pn_o, true_and, and_true, Nat.le_refl, and_self, true_implies, false_implies, not_true_eq_false, not_false_eq_true, pv_b0, pv_b01, pv_bn0, pv_b1, Bool.false_eq_true, Bool.true_eq_false, Bool.not_false, Bool.not_true, pv_bT, pv_bF, eq_self, true_or, or_true, nI_1, e2, e3, e4, v1, v2, v3, v4, k1, k2, k3, k4]
  rw [w_823 (by simp [pv_cat, Value.category]) (by decide)]
  refine ⟨R.o, lawC (oC83 O _) (by decide) R M (fun g1 h1 R1 M1 => ?_)⟩
  simp only [w_826, w_827, w_828, w_829, w_830, w_831, pv_catN, pv_cat1, pv_cat2, pv_cat3, pv_catL, Option.toList, List.nil_append, List.cons_append, List.append_nil, pv_rfS, pn_i, pn_r, pn_n, pn_o, true_and, and_true, Nat.le_refl, and_self, true_implies, false_implies, not_true_eq_false, not_false_eq_true, pv_b0, pv_b01, pv_bn0, pv_b1, Bool.false_eq_true, Bool.true_eq_false, Bool.not_false, Bool.not_true, pv_bT, pv_bF, eq_self, true_or, or_true, nI_1, e2, e3, e4, v1, v2, v3, v4, k1, k2, k3, k4]
  rw [w_832 (by simp [pv_cat, Value.category]) (by decide)]
  refine ⟨M1.1.o, lawM (oM163 O _) (by decide) (keepX_ok O _) R1 M1 (fun h2 R2 M2 => ?_)⟩
  simp only [w_835, pv_catN, pv_cat1, pv_cat2, pv_cat3, pv_catL, Option.toList, List.nil_append, List.cons_append, List.append_nil, pv_rfS, pn_i, pn_r, pn_n, pn_o, true_and, and_true, Nat.le_refl, and_self, true_implies, false_implies, not_true_eq_false, not_false_eq_true, pv_b0, pv_b01, pv_bn0, pv_b1, Bool.false_eq_true, Bool.true_eq_false, Bool.not_false, Bool.not_true, pv_bT, pv_bF, eq_self, true_or, or_true]
  exact K _ _ _ R2 M2 (keepX_ok O _)
theorem w_case25 {L : Nat} {xs : Nat → Int32} {n : Nat} {x : SX} {g : PvG} {h : PvH} (hL : L ≤ 2560) (hn : n + 5 ≤ L) (R : RC g h x) (M : RM g h x) (O : okX x) (K : ∀ g' h' x', RC g' h' x' → RM g' h' x' → okX x' → pv_W L xs 863 [some (.ref pv_SC), some (.ref 0), some (.ref 102), some (.int (nI n))] [] 127 1724 g' h') : pv_W L xs 840 [some (.ref pv_SC), some (.ref 0), some (.ref 102), some (.int (nI n))] [] 127 1724 g h := by
  have e2 : nI n + 2 = nI (n + 2) := nI_add n 2
  have e3 : nI n + 3 = nI (n + 3) := nI_add n 3
  have e4 : nI n + 4 = nI (n + 4) := nI_add n 4
  have v1 := vp_nI (show n + 1 < L by omega) (show L < 2 ^ 31 by omega)
  have v2 := vp_nI (show n + 2 < L by omega) (show L < 2 ^ 31 by omega)
  have v3 := vp_nI (show n + 3 < L by omega) (show L < 2 ^ 31 by omega)
  have v4 := vp_nI (show n + 4 < L by omega) (show L < 2 ^ 31 by omega)
  have k1 := nI_clamp (show n + 1 < 2 ^ 31 by omega)
  have k2 := nI_clamp (show n + 2 < 2 ^ 31 by omega)
  have k3 := nI_clamp (show n + 3 < 2 ^ 31 by omega)
  have k4 := nI_clamp (show n + 4 < 2 ^ 31 by omega)
  simp only [w_840, w_841, w_842, w_843, w_844, w_845, pv_catN, pv_cat1, pv_cat2, pv_cat3, pv_catL, Option.toList, List.nil_append, List.cons_append, List.append_nil, pv_rfS, pn_i, pn_r, pn_n, pn_o, true_and, and_true, Nat.le_refl, and_self, true_implies, false_implies, not_true_eq_false, not_false_eq_true, pv_b0, pv_b01, pv_bn0, pv_b1, Bool.false_eq_true, Bool.true_eq_false, Bool.not_false, Bool.not_true, pv_bT, pv_bF, eq_self, true_or, or_true, nI_1, e2, e3, e4, v1, v2, v3, v4, k1, k2, k3, k4]
  rw [w_846 (by simp [pv_cat, Value.category]) (by decide)]
  refine ⟨R.o, lawC (oC84 O _) (by decide) R M (fun g1 h1 R1 M1 => ?_)⟩
  simp only [w_849, w_850, w_851, w_852, w_853, w_854, pv_catN, pv_cat1, pv_cat2, pv_cat3, pv_catL, Option.toList, List.nil_append, List.cons_append, List.append_nil, pv_rfS, pn_i, pn_r, pn_n, pn_o, true_and, and_true, Nat.le_refl, and_self, true_implies, false_implies, not_true_eq_false, not_false_eq_true, pv_b0, pv_b01, pv_bn0, pv_b1, Bool.false_eq_true, Bool.true_eq_false, Bool.not_false, Bool.not_true, pv_bT, pv_bF, eq_self, true_or, or_true, nI_1, e2, e3, e4, v1, v2, v3, v4, k1, k2, k3, k4]
  rw [w_855 (by simp [pv_cat, Value.category]) (by decide)]
  refine ⟨M1.1.o, lawM (oM164 O _) (by decide) (againX_ok O _) R1 M1 (fun h2 R2 M2 => ?_)⟩
  simp only [w_858, pv_catN, pv_cat1, pv_cat2, pv_cat3, pv_catL, Option.toList, List.nil_append, List.cons_append, List.append_nil, pv_rfS, pn_i, pn_r, pn_n, pn_o, true_and, and_true, Nat.le_refl, and_self, true_implies, false_implies, not_true_eq_false, not_false_eq_true, pv_b0, pv_b01, pv_bn0, pv_b1, Bool.false_eq_true, Bool.true_eq_false, Bool.not_false, Bool.not_true, pv_bT, pv_bF, eq_self, true_or, or_true]
  exact K _ _ _ R2 M2 (againX_ok O _)
theorem L5 {L k : Nat} (hL : L ≤ 2560) (hk : k ≤ 4000) : (Int32.ofNat L - 5 < nI k) = (L < k + 5) := by
  apply propext
  rw [Int32.lt_iff_toInt_lt, nI_toInt (by omega)]
  have e : (Int32.ofNat L - 5).toInt = (L : Int) - 5 := by
    rcases Nat.lt_or_ge L 5 with z | z
    · match L, z with
      | 0, _ => decide
      | 1, _ => decide
      | 2, _ => decide
      | 3, _ => decide
      | 4, _ => decide
      | L + 5, z => omega
    · have : Int32.ofNat L - 5 = nI (L - 5) := pk_sub (b := 5) z
      rw [this, nI_toInt (by omega)]
      omega
  rw [e]
  omega
theorem w_step {L : Nat} {xs : Nat → Int32} {n : Nat} {x : SX} {g : PvG} {h : PvH} (hL : L ≤ 2560) (hn : n + 5 ≤ L) (R : RC g h x) (M : RM g h x) (O : okX x) (K : ∀ g' h' x', RC g' h' x' → RM g' h' x' → okX x' → pv_W L xs 863 [some (.ref pv_SC), some (.ref 0), some (.ref 102), some (.int (nI n))] [] 127 1724 g' h') : pv_W L xs 18 [some (.ref pv_SC), some (.ref 0), some (.ref 102), some (.int (nI n))] [] 127 1724 g h := by
  have v0 := vp_nI (show n < L by omega) (show L < 2 ^ 31 by omega)
  have k0 := nI_clamp (show n < 2 ^ 31 by omega)
  have c5 : (Int32.ofNat L - 5 < nI n) = False := by
    rw [L5 hL (by omega)]
    exact eq_false (by omega)
  simp only [w_18, w_19, w_20, w_21, w_22, w_23, w_26, w_27, w_28, w_29, w_31, pv_catN, pv_cat1, pv_cat2, pv_cat3, pv_catL, Option.toList, List.nil_append, List.cons_append, List.append_nil, pv_rfS, pn_i, pn_r, pn_n, pn_o, true_and, and_true, Nat.le_refl, and_self, true_implies, false_implies, not_true_eq_false, not_false_eq_true, pv_b0, pv_b01, pv_bn0, pv_b1, Bool.false_eq_true, Bool.true_eq_false, Bool.not_false, Bool.not_true, pv_bT, pv_bF, eq_self, true_or, or_true, c5, v0, k0]
  refine w_32 (K g h x R M O) (fun k hk => ?_)
  have hk : k < 26 := hk
  match k, hk with
  | 0, _ => exact w_case0 hL hn R M O K
  | 1, _ => exact w_case1 hL hn R M O K
  | 2, _ => exact w_case2 hL hn R M O K
  | 3, _ => exact w_case3 hL hn R M O K
  | 4, _ => exact w_case4 hL hn R M O K
  | 5, _ => exact w_case5 hL hn R M O K
  | 6, _ => exact w_case6 hL hn R M O K
  | 7, _ => exact w_case7 hL hn R M O K
  | 8, _ => exact w_case8 hL hn R M O K
  | 9, _ => exact w_case9 hL hn R M O K
  | 10, _ => exact w_case10 hL hn R M O K
  | 11, _ => exact w_case11 hL hn R M O K
  | 12, _ => exact w_case12 hL hn R M O K
  | 13, _ => exact w_case13 hL hn R M O K
  | 14, _ => exact w_case14 hL hn R M O K
  | 15, _ => exact w_case15 hL hn R M O K
  | 16, _ => exact w_case16 hL hn R M O K
  | 17, _ => exact w_case17 hL hn R M O K
  | 18, _ => exact w_case18 hL hn R M O K
  | 19, _ => exact w_case19 hL hn R M O K
  | 20, _ => exact w_case20 hL hn R M O K
  | 21, _ => exact w_case21 hL hn R M O K
  | 22, _ => exact w_case22 hL hn R M O K
  | 23, _ => exact w_case23 hL hn R M O K
  | 24, _ => exact w_case24 hL hn R M O K
  | 25, _ => exact w_case25 hL hn R M O K
  | k + 26, hk => omega
theorem w_loop {L : Nat} {xs : Nat → Int32} (hL : L ≤ 2560) : ∀ m n (x : SX) (g : PvG) (h : PvH), L - n ≤ m → n ≤ 2600 → RC g h x → RM g h x → okX x → pv_W L xs 18 [some (.ref pv_SC), some (.ref 0), some (.ref 102), some (.int (nI n))] [] 127 1724 g h := by
  intro m
  induction m with
  | zero =>
    intro n x g h hm hn R M O
    have c5 : (Int32.ofNat L - 5 < nI n) = True := by
      rw [L5 hL (by omega)]
      exact eq_true (by omega)
    simp only [w_18, w_19, w_20, w_21, w_22, w_23, w_869, pv_catN, pv_cat1, pv_cat2, pv_cat3, pv_catL, Option.toList, List.nil_append, List.cons_append, List.append_nil, pv_rfS, pn_i, pn_r, pn_n, pn_o, true_and, and_true, Nat.le_refl, and_self, true_implies, false_implies, not_true_eq_false, not_false_eq_true, pv_b0, pv_b01, pv_bn0, pv_b1, Bool.false_eq_true, Bool.true_eq_false, Bool.not_false, Bool.not_true, pv_bT, pv_bF, eq_self, true_or, or_true, c5]
    exact w_870
  | succ m ih =>
    intro n x g h hm hn R M O
    by_cases c : n + 5 ≤ L
    · refine w_step hL c R M O (fun g' h' x' R' M' O' => ?_)
      have e5 : nI n + 5 = nI (n + 5) := nI_add n 5
      simp only [w_863, w_866, pv_catN, pv_cat1, pv_cat2, pv_cat3, pv_catL, Option.toList, List.nil_append, List.cons_append, List.append_nil, pv_rfS, pn_i, pn_r, pn_n, pn_o, true_and, and_true, Nat.le_refl, and_self, true_implies, false_implies, not_true_eq_false, not_false_eq_true, pv_b0, pv_b01, pv_bn0, pv_b1, Bool.false_eq_true, Bool.true_eq_false, Bool.not_false, Bool.not_true, pv_bT, pv_bF, eq_self, true_or, or_true, e5]
      exact ih (n + 5) x' g' h' (by omega) (by omega) R' M' O'
    · have c5 : (Int32.ofNat L - 5 < nI n) = True := by
        rw [L5 hL (by omega)]
        exact eq_true (by omega)
      simp only [w_18, w_19, w_20, w_21, w_22, w_23, w_869, pv_catN, pv_cat1, pv_cat2, pv_cat3, pv_catL, Option.toList, List.nil_append, List.cons_append, List.append_nil, pv_rfS, pn_i, pn_r, pn_n, pn_o, true_and, and_true, Nat.le_refl, and_self, true_implies, false_implies, not_true_eq_false, not_false_eq_true, pv_b0, pv_b01, pv_bn0, pv_b1, Bool.false_eq_true, Bool.true_eq_false, Bool.not_false, Bool.not_true, pv_bT, pv_bF, eq_self, true_or, or_true, c5]
      exact w_870
set_option maxHeartbeats 2000000 in
theorem pv_law : pv_LawOK := by
  intro L xs hL
  show pv_W L xs 0 [some (.ref pv_SC), none, none, none] [] 0 0 (0, fun _ => (999, 0), fun _ _ => none) (fun _ _ => 0)
  generalize hg : ((0, fun _ => (999, 0), fun _ _ => none) : PvG) = g0
  have b0 : g0.1 = 0 := by rw [← hg]
  generalize ((fun _ _ => 0) : PvH) = h0
  rw [w_0]
  refine ⟨by omega, by decide, by decide, ?_⟩
  rw [w_3, b0, w_4 (by simp [pv_cat, Value.category]) (by decide)]
  refine c58 (d := 56) (by show g0.1 + 1 = _; rw [b0]) (by rw [show (0 : Nat) = g0.1 from b0.symm, nO_ta]) (by rw [show (0 : Nat) = g0.1 from b0.symm, nH_a]) (fun g1 h1 b1 F1 => ?_)
  simp only [pv_catN, pv_cat1, pv_cat2, pv_cat3, pv_catL, Option.toList, List.nil_append, List.cons_append, List.append_nil, pv_rfS, pn_i, pn_r, pn_n, pn_o, true_and, and_true, Nat.le_refl, and_self, true_implies, false_implies, not_true_eq_false, not_false_eq_true, pv_b0, pv_b01, pv_bn0, pv_b1, Bool.false_eq_true, Bool.true_eq_false, Bool.not_false, Bool.not_true, pv_bT, pv_bF, eq_self]
  rw [w_7 rfl, w_8]
  refine ⟨by omega, by decide, by decide, ?_⟩
  rw [w_11, b1, w_12 (by simp [pv_cat, Value.category]) (by decide)]
  refine c99 (d := 59) (by show g1.1 + 1 = _; rw [b1]) (by omega) (by rw [← b1, nO_ta]) (fun g2 h2 A => ?_)
  simp only [pv_catN, pv_cat1, pv_cat2, pv_cat3, pv_catL, Option.toList, List.nil_append, List.cons_append, List.append_nil, pv_rfS, pn_i, pn_r, pn_n, pn_o, true_and, and_true, Nat.le_refl, and_self, true_implies, false_implies, not_true_eq_false, not_false_eq_true, pv_b0, pv_b01, pv_bn0, pv_b1, Bool.false_eq_true, Bool.true_eq_false, Bool.not_false, Bool.not_true, pv_bT, pv_bF, eq_self]
  rw [w_15 rfl, w_16, w_17 rfl]
  have T : (pv_tg (pv_newO g1 10 0) 102).1 = 10 := by rw [← b1, nO_ta]
  have hz : pv_newH g1 h1 102 = fun _ => 0 := by rw [← b1, nH_a]
  have M := c99M A T (by rw [hz]; decide)
  have R : RC g2 h2 xBeg := by
    obtain ⟨G, C⟩ := F1 g2 h2 (fun a ha => by rw [A.2.2.1 a (by omega), nO_t (by omega)]) (fun a k ha => by rw [A.2.2.2.1 a k ha, nO_r (by omega)]) (fun a ha => by rw [A.2.2.2.2.1 a ha, nH_n (by omega)])
    exact ⟨12, 3, _, G, C⟩
  exact w_loop hL L 0 xBeg g2 h2 (by omega) (by omega) R M xBeg_ok
