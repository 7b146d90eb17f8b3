/-! THE READER of the model: tower -/
theorem bit64 {h : PvH} {s : RS} (C : mR2 h s) {k : Nat} (hk : k < 64) : h 116 k = 0 ∨ h 116 k = 1 := by
  have := C.2.2.2.2 (k / 8) (k % 8) (by omega) (by omega)
  rw [show 8 * (k / 8) + k % 8 = k by omega] at this
  rw [this]
  cases (aC s (k / 8)).testBit (k % 8)
  · exact Or.inl rfl
  · exact Or.inr rfl
set_option maxHeartbeats 2000000 in
theorem oM116 {x : SX} (O : okX x) : OpM 7 116 [] x (.int (towA x)) (towXX x) := by
  intro d P g h ⟨G, M0⟩ hP
  have M := M0.t0
  have F0 : FM h (pv_st h 102 0 0) := FM.rf.st (by omega)
  generalize hh : pv_st h 102 0 0 = h0 at M F0
  simp only [e116, z116_0, z116_1, z116_2, z116_5, pv_catN, pv_cat1, pv_cat2, pv_cat3, pv_catL, Option.toList, List.nil_append, List.cons_append, List.append_nil, pv_rfS, pn_i, pn_r, pn_n, pn_o, true_and, and_true, Nat.le_refl, and_self, true_implies, false_implies, not_true_eq_false, not_false_eq_true, pv_b0, pv_b01, pv_bn0, pv_b1, Bool.false_eq_true, Bool.true_eq_false, Bool.not_false, Bool.not_true, pv_bT, pv_bF, eq_self, true_or, or_true, G.o, hh]
  rw [z116_6 (by simp [pv_cat, Value.category]) (by decide)]
  refine ⟨G.o, m114 G M O fun h1 F1 R1 => ?_⟩
  have N1 := F1.cD M
  have FM1 : FM h h1 := F0.tr (fun o ho => F1.1 o (by omega) (by omega) (by omega) (by omega) (by omega))
  simp only [z116_9, z116_11, z116_14, z116_16, pv_catN, pv_cat1, pv_cat2, pv_cat3, pv_catL, Option.toList, List.nil_append, List.cons_append, List.append_nil, pv_rfS, pn_i, pn_r, pn_n, pn_o, true_and, and_true, Nat.le_refl, and_self, true_implies, false_implies, not_true_eq_false, not_false_eq_true, pv_b0, pv_b01, pv_bn0, pv_b1, Bool.false_eq_true, Bool.true_eq_false, Bool.not_false, Bool.not_true, pv_bT, pv_bF, eq_self, true_or, or_true]
  cases hk : (readR x).1 with
  | some p =>
    obtain ⟨e1, e2⟩ := fauA_s O hk
    rw [e1, e2]
    simp only [false_implies, not_false_eq_true, true_implies, true_and]
    unfold towA towXX at hP
    rw [hk] at hP
    exact hP h1 ⟨G, N1⟩ FM1
  | none =>
    have R1 := R1 hk
    obtain ⟨A, h4⟩ := rg_ok s0_ok hk
    rw [fauA_n hk]
    unfold towA towXX at hP
    rw [hk] at hP
    simp only [not_true_eq_false, false_implies, and_true, true_implies]
    have hP : ∀ h', RM g h' (towX x (readR x).2) → FM h h' → P (some (.int (nI (aR (readR x).2)))) g h' := hP
    have A : okA (readR x).2 := A
    have h4 : aS (readR x).2 = 4 := h4
    generalize (readR x).2 = s at *
    have hR := A.R
    have hF := A.F (by omega)
    have hL := A.L (by omega)
    obtain ⟨y1, y2, y3, y4, y5⟩ := R1
    simp only [z116_17, z116_18, z116_19, z116_22, z116_25, z116_26, z116_27, z116_30, z116_33, z116_34, pv_catN, pv_cat1, pv_cat2, pv_cat3, pv_catL, Option.toList, List.nil_append, List.cons_append, List.append_nil, pv_rfS, pn_i, pn_r, pn_n, pn_o, true_and, and_true, Nat.le_refl, and_self, true_implies, false_implies, not_true_eq_false, not_false_eq_true, pv_b0, pv_b01, pv_bn0, pv_b1, Bool.false_eq_true, Bool.true_eq_false, Bool.not_false, Bool.not_true, pv_bT, pv_bF, eq_self, true_or, or_true, G.o, y1, st_k (show (21 : Nat) ≠ 4 by decide), y2]
    generalize hh2 : pv_st (pv_st h1 102 4 (nI (aF s))) 102 6 (nI (aR s)) = h2
    have f2 : ∀ o, o ≠ 102 → h2 o = h1 o := fun o a => by rw [← hh2, st_o a, st_o a]
    have g2 : ∀ k, k ≠ 4 → k ≠ 6 → h2 102 k = h1 102 k := fun k a b => by rw [← hh2, st_k b, st_k a]
    have i2 : h2 102 4 = nI (aF s) := by rw [← hh2, st_k (by decide), st_at]
    have j2 : h2 102 6 = nI (aR s) := by rw [← hh2, st_at]
    -- the end
    have lC : ∀ n k (h3 h5 : PvH), k + n = 64 → (∀ o, o < 104 ∨ 112 < o → h3 o = h2 o) → (∀ f, f < 5 → h3 104 f = h2 113 f) → (∀ r, r < aR s → h3 105 r = nI (aW s r) ∧ h3 106 r = nI (aV s r) ∧ h3 107 r = nI (aA s r) ∧ h3 108 r = nI (aK s r) ∧ h3 109 r = nI (aG s r) ∧ h3 110 r = 0 ∧ h3 111 r = nI (aG s r)) → (∀ o, o ≠ 112 → h5 o = h3 o) → (∀ j, j < k → h5 112 j = h2 116 j) → pv_E (d + 6) 116 P 173 [some (.ref 102), some (.int (nI k))] [] 0 0 g h5 := by
      intro n
      induction n with
      | zero =>
        intro k h3 h5 hk f3 b3 r3 f5 c5
        have hk : k = 64 := hk
        subst hk
        have v0 : vp_in 0 2 = True := vp_nI (n := 0) (by decide) (by decide)
        have v1 : vp_in 1 2 = True := vp_nI (n := 1) (by decide) (by decide)
        have c1 : (1 : Int32).toNatClampNeg = 1 := rfl
        rw [z116_173]
        simp only [z116_174, z116_176, z116_197, z116_198, z116_199, z116_202, z116_203, z116_205, z116_208, z116_209, z116_211, z116_214, z116_215, z116_216, z116_219, z116_220, z116_223, z116_224, z116_225, z116_226, z116_227, z116_230, z116_231, z116_232, z116_233, z116_234, z116_237, pv_catN, pv_cat1, pv_cat2, pv_cat3, pv_catL, Option.toList, List.nil_append, List.cons_append, List.append_nil, pv_rfS, pn_i, pn_r, pn_n, pn_o, true_and, and_true, Nat.le_refl, and_self, true_implies, false_implies, not_true_eq_false, not_false_eq_true, pv_b0, pv_b01, pv_bn0, pv_b1, Bool.false_eq_true, Bool.true_eq_false, Bool.not_false, Bool.not_true, pv_bT, pv_bF, eq_self, true_or, or_true, show ((64 : Int32) ≤ nI 64) = True from eq_true (by decide), G.o, G.r27, G.t119, v0, v1, cl0, c1]
        generalize hh6 : pv_st (pv_st (pv_st (pv_st (pv_st (pv_st h5 102 15 0) 102 16 9) 102 17 9) 102 25 0) 119 0 0) 119 1 0 = h6
        have f6 : ∀ o, o ≠ 102 → o ≠ 119 → h6 o = h5 o := fun o a b => by rw [← hh6, st_o b, st_o b, st_o a, st_o a, st_o a, st_o a]
        have g6 : ∀ k, k ≠ 15 → k ≠ 16 → k ≠ 17 → k ≠ 25 → h6 102 k = h2 102 k := fun k a b c e => by rw [← hh6, st_o (by decide), st_o (by decide), st_k e, st_k c, st_k b, st_k a, f5 102 (by decide), f3 102 (by omega)]
        have e6 : h6 102 6 = nI (aR s) := by rw [g6 6 (by decide) (by decide) (by decide) (by decide)]; exact j2
        rw [e6]
        refine hP h6 ⟨G, ⟨?_, fun f hf => ?_, ?_, fun r hr => ?_, fun r hr => ?_, fun r hr => ?_, fun r hr => ?_, fun r hr => ?_, fun r hr => ?_, fun r hr => ?_, fun r o hr ho => ?_, ?_, ?_, ?_⟩, ?_, fun i s hs => (by cases hs), ⟨?_, fun s ix z => (by cases z)⟩, ⟨?_, fun s ix z => (by cases z)⟩, ?_, fun i hi => ?_⟩ (fun o ho => ?_)
        · rw [g6 4 (by decide) (by decide) (by decide) (by decide)]; exact i2
        · have hf : f < aF s := hf
          rw [f6 104 (by decide) (by decide), f5 104 (by decide), b3 f (by omega), f2 113 (by decide)]
          exact (y3 f (by omega)).2
        · exact e6
        · rw [f6 105 (by decide) (by decide), f5 105 (by decide)]; exact (r3 r hr).1
        · rw [f6 106 (by decide) (by decide), f5 106 (by decide)]; exact (r3 r hr).2.1
        · rw [f6 107 (by decide) (by decide), f5 107 (by decide)]; exact (r3 r hr).2.2.1
        · rw [f6 108 (by decide) (by decide), f5 108 (by decide)]; exact (r3 r hr).2.2.2.1
        · rw [f6 109 (by decide) (by decide), f5 109 (by decide)]; exact (r3 r hr).2.2.2.2.1
        · rw [f6 110 (by decide) (by decide), f5 110 (by decide), (r3 r hr).2.2.2.2.2.1]
          show (0 : Int32) = pv_b (Nat.testBit 0 r)
          rw [Nat.zero_testBit]
          rfl
        · rw [f6 111 (by decide) (by decide), f5 111 (by decide)]; exact (r3 r hr).2.2.2.2.2.2
        · have hr : r < aR s := hr
          have ho : o < aR s := ho
          rw [f6 112 (by decide) (by decide), c5 _ (by omega), f2 116 (by decide)]
          exact y5 r o (by omega) (by omega)
        · rw [← hh6, st_o (by decide), st_o (by decide), st_k (by decide), st_k (by decide), st_k (by decide), st_at]; rfl
        · rw [← hh6, st_o (by decide), st_o (by decide), st_k (by decide), st_k (by decide), st_at]; rfl
        · rw [← hh6, st_o (by decide), st_o (by decide), st_k (by decide), st_at]; rfl
        · rw [← hh6, st_o (by decide), st_o (by decide), st_at]; rfl
        · rw [← hh6, st_k (by decide), st_at]; rfl
        · rw [← hh6, st_at]; rfl
        · rw [g6 2 (by decide) (by decide) (by decide) (by decide), g2 2 (by decide) (by decide)]; exact N1.N
        · rw [f6 103 (by decide) (by decide), f5 103 (by decide), f3 103 (by omega), f2 103 (by decide)]; exact N1.Y i hi
        · rw [f6 o (by omega) (by omega), f5 o (by omega), f3 o (by omega), f2 o (by omega)]; exact FM1 o ho
      | succ n ih =>
        intro k h3 h5 hk f3 b3 r3 f5 c5
        have hc : ((64 : Int32) ≤ nI k) = False := eq_false (by rw [show (64 : Int32) = nI 64 from rfl, nI_le' (by decide) (by omega)]; omega)
        have e116 : h5 116 = h1 116 := by rw [f5 116 (by decide), f3 116 (by omega), f2 116 (by decide)]
        have hb : (h5 116 k = 0 ∨ h5 116 k = 1) := by
          rw [e116]
          exact bit64 ⟨y1, y2, y3, y4, y5⟩ (by omega)
        rw [z116_173]
        simp only [z116_174, z116_176, z116_179, z116_180, z116_183, z116_184, z116_185, z116_188, z116_189, z116_190, z116_191, z116_194, pv_catN, pv_cat1, pv_cat2, pv_cat3, pv_catL, Option.toList, List.nil_append, List.cons_append, List.append_nil, pv_rfS, pn_i, pn_r, pn_n, pn_o, true_and, and_true, Nat.le_refl, and_self, true_implies, false_implies, not_true_eq_false, not_false_eq_true, pv_b0, pv_b01, pv_bn0, pv_b1, Bool.false_eq_true, Bool.true_eq_false, Bool.not_false, Bool.not_true, pv_bT, pv_bF, eq_self, true_or, or_true, hc, G.o, G.r14, G.t112, G.r23, G.t116, vp_nI (show k < 64 by omega) (show 64 < 2 ^ 31 by decide), nI_clamp (show k < 2 ^ 31 by omega), nI_1]
        refine ⟨hb, ih (k + 1) h3 _ (by omega) f3 b3 r3 (fun o a => by rw [st_o a, f5 o a]) (fun j hj => ?_)⟩
        by_cases y : j = k
        · rw [y, st_at, e116, f2 116 (by decide)]
        · rw [st_k y]; exact c5 j (by omega)
    -- records
    have lB : ∀ n k (h3 : PvH), k + n = aR s → (∀ o, o < 104 ∨ 111 < o → h3 o = h2 o) → (∀ f, f < 5 → h3 104 f = h2 113 f) → (∀ r, r < k → h3 105 r = nI (aW s r) ∧ h3 106 r = nI (aV s r) ∧ h3 107 r = nI (aA s r) ∧ h3 108 r = nI (aK s r) ∧ h3 109 r = nI (aG s r) ∧ h3 110 r = 0 ∧ h3 111 r = nI (aG s r)) → pv_E (d + 6) 116 P 60 [some (.ref 102), some (.int (nI k))] [] 0 0 g h3 := by
      intro n
      induction n with
      | zero =>
        intro k h3 hk f3 b3 r3
        have hk : k = aR s := hk
        subst hk
        have e6 : h3 102 6 = nI (aR s) := by rw [f3 102 (by omega)]; exact j2
        rw [z116_60]
        simp only [z116_61, z116_62, z116_65, z116_171, z116_172, pv_catN, pv_cat1, pv_cat2, pv_cat3, pv_catL, Option.toList, List.nil_append, List.cons_append, List.append_nil, pv_rfS, pn_i, pn_r, pn_n, pn_o, true_and, and_true, Nat.le_refl, and_self, true_implies, false_implies, not_true_eq_false, not_false_eq_true, pv_b0, pv_b01, pv_bn0, pv_b1, Bool.false_eq_true, Bool.true_eq_false, Bool.not_false, Bool.not_true, pv_bT, pv_bF, eq_self, true_or, or_true, G.o, e6, nI_le' (show aR s < 2 ^ 31 by omega) (show aR s < 2 ^ 31 by omega)]
        exact lC 64 0 h3 h3 rfl (fun o ho => f3 o (by omega)) b3 r3 (fun _ _ => rfl) (fun j hj => absurd hj (Nat.not_lt_zero j))
      | succ n ih =>
        intro k h3 hk f3 b3 r3
        have hkR : k < aR s := by omega
        have e6 : h3 102 6 = nI (aR s) := by rw [f3 102 (by omega)]; exact j2
        have e115 : h3 115 = h1 115 := by rw [f3 115 (by omega), f2 115 (by decide)]
        obtain ⟨w1, w2, w3, w4, w5⟩ := y4 k hkR
        rw [← e115] at w1 w2 w3 w4 w5
        have e5 : (5 : Int32) * nI k = nI (5 * k) := pk_mul 5 k
        have k105_115 : ∀ (h : PvH) (k : Nat) (v : Int32), pv_st h 105 k v 115 = h 115 := fun h k v => st_o (by decide)
        have k106_115 : ∀ (h : PvH) (k : Nat) (v : Int32), pv_st h 106 k v 115 = h 115 := fun h k v => st_o (by decide)
        have k107_115 : ∀ (h : PvH) (k : Nat) (v : Int32), pv_st h 107 k v 115 = h 115 := fun h k v => st_o (by decide)
        have k108_115 : ∀ (h : PvH) (k : Nat) (v : Int32), pv_st h 108 k v 115 = h 115 := fun h k v => st_o (by decide)
        have k109_115 : ∀ (h : PvH) (k : Nat) (v : Int32), pv_st h 109 k v 115 = h 115 := fun h k v => st_o (by decide)
        have k110_115 : ∀ (h : PvH) (k : Nat) (v : Int32), pv_st h 110 k v 115 = h 115 := fun h k v => st_o (by decide)
        have k105_102 : ∀ (h : PvH) (k : Nat) (v : Int32), pv_st h 105 k v 102 = h 102 := fun h k v => st_o (by decide)
        have k106_102 : ∀ (h : PvH) (k : Nat) (v : Int32), pv_st h 106 k v 102 = h 102 := fun h k v => st_o (by decide)
        have k107_102 : ∀ (h : PvH) (k : Nat) (v : Int32), pv_st h 107 k v 102 = h 102 := fun h k v => st_o (by decide)
        have k108_102 : ∀ (h : PvH) (k : Nat) (v : Int32), pv_st h 108 k v 102 = h 102 := fun h k v => st_o (by decide)
        have k109_102 : ∀ (h : PvH) (k : Nat) (v : Int32), pv_st h 109 k v 102 = h 102 := fun h k v => st_o (by decide)
        have k110_102 : ∀ (h : PvH) (k : Nat) (v : Int32), pv_st h 110 k v 102 = h 102 := fun h k v => st_o (by decide)
        have k111_102 : ∀ (h : PvH) (k : Nat) (v : Int32), pv_st h 111 k v 102 = h 102 := fun h k v => st_o (by decide)
        have k110_109 : ∀ (h : PvH) (k : Nat) (v : Int32), pv_st h 110 k v 109 = h 109 := fun h k v => st_o (by decide)
        rw [z116_60]
        simp only [z116_61, z116_62, z116_65, z116_68, z116_69, z116_72, z116_73, z116_74, z116_77, z116_78, z116_79, z116_80, z116_81, z116_82, z116_83, z116_86, z116_87, z116_88, z116_91, z116_92, z116_93, z116_94, z116_95, z116_96, z116_97, z116_98, z116_99, z116_102, z116_103, z116_104, z116_107, z116_108, z116_109, z116_110, z116_111, z116_112, z116_113, z116_114, z116_115, z116_118, z116_119, z116_120, z116_123, z116_124, z116_125, z116_126, z116_127, z116_128, z116_129, z116_130, z116_131, z116_134, z116_135, z116_136, z116_139, z116_140, z116_141, z116_142, z116_143, z116_144, z116_145, z116_146, z116_147, z116_150, z116_151, z116_152, z116_153, z116_154, z116_157, z116_158, z116_159, z116_162, z116_163, z116_164, z116_165, z116_168, pv_catN, pv_cat1, pv_cat2, pv_cat3, pv_catL, Option.toList, List.nil_append, List.cons_append, List.append_nil, pv_rfS, pn_i, pn_r, pn_n, pn_o, true_and, and_true, Nat.le_refl, and_self, true_implies, false_implies, not_true_eq_false, not_false_eq_true, pv_b0, pv_b01, pv_bn0, pv_b1, Bool.false_eq_true, Bool.true_eq_false, Bool.not_false, Bool.not_true, pv_bT, pv_bF, eq_self, true_or, or_true, G.o, e6, nI_le' (show aR s < 2 ^ 31 by omega) (show k < 2 ^ 31 by omega), show (aR s ≤ k) = False from eq_false (by omega), G.r7, G.r8, G.r9, G.r10, G.r11, G.r12, G.r13, G.r22, G.t105, G.t106, G.t107, G.t108, G.t109, G.t110, G.t111, G.t115, k105_115, k106_115, k107_115, k108_115, k109_115, k110_115, k105_102, k106_102, k107_102, k108_102, k109_102, k110_102, k111_102, k110_109, e5, show (4 : Int32) = nI 4 from rfl, show (3 : Int32) = nI 3 from rfl, show (2 : Int32) = nI 2 from rfl, nI_add, nI_1, vp_nI (show k < 8 by omega) (show 8 < 2 ^ 31 by decide), nI_clamp (show k < 2 ^ 31 by omega), vp_nI (show 5 * k < 40 by omega) (show 40 < 2 ^ 31 by decide), vp_nI (show 5 * k + 1 < 40 by omega) (show 40 < 2 ^ 31 by decide), vp_nI (show 5 * k + 2 < 40 by omega) (show 40 < 2 ^ 31 by decide), vp_nI (show 5 * k + 3 < 40 by omega) (show 40 < 2 ^ 31 by decide), vp_nI (show 5 * k + 4 < 40 by omega) (show 40 < 2 ^ 31 by decide), nI_clamp (show 5 * k < 2 ^ 31 by omega), nI_clamp (show 5 * k + 1 < 2 ^ 31 by omega), nI_clamp (show 5 * k + 2 < 2 ^ 31 by omega), nI_clamp (show 5 * k + 3 < 2 ^ 31 by omega), nI_clamp (show 5 * k + 4 < 2 ^ 31 by omega), w1, w2, w3, w4, w5, st_at]
        refine ih (k + 1) _ (by omega) (fun o ho => by rw [st_o (by omega), st_o (by omega), st_o (by omega), st_o (by omega), st_o (by omega), st_o (by omega), st_o (by omega)]; exact f3 o ho) (fun f hf => by rw [st_o (by decide), st_o (by decide), st_o (by decide), st_o (by decide), st_o (by decide), st_o (by decide), st_o (by decide)]; exact b3 f hf) (fun r hr => ?_)
        by_cases z : r = k
        · subst z
          refine ⟨?_, ?_, ?_, ?_, ?_, ?_, ?_⟩
          · rw [st_o (by decide), st_o (by decide), st_o (by decide), st_o (by decide), st_o (by decide), st_o (by decide), st_at]
          · rw [st_o (by decide), st_o (by decide), st_o (by decide), st_o (by decide), st_o (by decide), st_at]
          · rw [st_o (by decide), st_o (by decide), st_o (by decide), st_o (by decide), st_at]
          · rw [st_o (by decide), st_o (by decide), st_o (by decide), st_at]
          · rw [st_o (by decide), st_o (by decide), st_at]
          · rw [st_o (by decide), st_at]
          · rw [st_at]
        · obtain ⟨r1, r2, r3', r4, r5, r6, r7⟩ := r3 r (by omega)
          refine ⟨?_, ?_, ?_, ?_, ?_, ?_, ?_⟩
          · rw [st_o (by decide), st_o (by decide), st_o (by decide), st_o (by decide), st_o (by decide), st_o (by decide), st_k z]; exact r1
          · rw [st_o (by decide), st_o (by decide), st_o (by decide), st_o (by decide), st_o (by decide), st_k z, st_o (by decide)]; exact r2
          · rw [st_o (by decide), st_o (by decide), st_o (by decide), st_o (by decide), st_k z, st_o (by decide), st_o (by decide)]; exact r3'
          · rw [st_o (by decide), st_o (by decide), st_o (by decide), st_k z, st_o (by decide), st_o (by decide), st_o (by decide)]; exact r4
          · rw [st_o (by decide), st_o (by decide), st_k z, st_o (by decide), st_o (by decide), st_o (by decide), st_o (by decide)]; exact r5
          · rw [st_o (by decide), st_k z, st_o (by decide), st_o (by decide), st_o (by decide), st_o (by decide), st_o (by decide)]; exact r6
          · rw [st_k z, st_o (by decide), st_o (by decide), st_o (by decide), st_o (by decide), st_o (by decide), st_o (by decide)]; exact r7
    -- floors
    have lA : ∀ n k (h3 : PvH), k + n = 5 → (∀ o, o ≠ 104 → h3 o = h2 o) → (∀ f, f < k → h3 104 f = h2 113 f) → pv_E (d + 6) 116 P 35 [some (.ref 102), some (.int (nI k))] [] 0 0 g h3 := by
      intro n
      induction n with
      | zero =>
        intro k h3 hk f3 b3
        have hk : k = 5 := hk
        subst hk
        rw [z116_35]
        simp only [z116_36, z116_37, z116_58, z116_59, pv_catN, pv_cat1, pv_cat2, pv_cat3, pv_catL, Option.toList, List.nil_append, List.cons_append, List.append_nil, pv_rfS, pn_i, pn_r, pn_n, pn_o, true_and, and_true, Nat.le_refl, and_self, true_implies, false_implies, not_true_eq_false, not_false_eq_true, pv_b0, pv_b01, pv_bn0, pv_b1, Bool.false_eq_true, Bool.true_eq_false, Bool.not_false, Bool.not_true, pv_bT, pv_bF, eq_self, true_or, or_true, show ((5 : Int32) ≤ nI 5) = True from eq_true (by decide)]
        exact lB (aR s) 0 h3 (Nat.zero_add _) (fun o ho => f3 o (by omega)) b3 (fun r hr => absurd hr (Nat.not_lt_zero r))
      | succ n ih =>
        intro k h3 hk f3 b3
        have hc : ((5 : Int32) ≤ nI k) = False := eq_false (by rw [show (5 : Int32) = nI 5 from rfl, nI_le' (by decide) (by omega)]; omega)
        rw [z116_35]
        simp only [z116_36, z116_37, z116_40, z116_41, z116_44, z116_45, z116_46, z116_49, z116_50, z116_51, z116_52, z116_55, pv_catN, pv_cat1, pv_cat2, pv_cat3, pv_catL, Option.toList, List.nil_append, List.cons_append, List.append_nil, pv_rfS, pn_i, pn_r, pn_n, pn_o, true_and, and_true, Nat.le_refl, and_self, true_implies, false_implies, not_true_eq_false, not_false_eq_true, pv_b0, pv_b01, pv_bn0, pv_b1, Bool.false_eq_true, Bool.true_eq_false, Bool.not_false, Bool.not_true, pv_bT, pv_bF, eq_self, true_or, or_true, hc, G.o, G.r5, G.t104, G.r19, G.t113, vp_nI (show k < 5 by omega) (show 5 < 2 ^ 31 by decide), nI_clamp (show k < 2 ^ 31 by omega), nI_1]
        refine ih (k + 1) _ (by omega) (fun o a => by rw [st_o a, f3 o a]) (fun f hf => ?_)
        by_cases y : f = k
        · rw [y, st_at, f3 113 (by decide)]
        · rw [st_k y]; exact b3 f (by omega)
    exact lA 5 0 h2 rfl (fun _ _ => rfl) (fun f hf => absurd hf (Nat.not_lt_zero f))
