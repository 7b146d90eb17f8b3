/-! THE READER of the model: the tower; fault, tower of the model -/
set_option maxHeartbeats 1000000 in
theorem m114 {d : Nat} {P : PvP} {g : PvG} {h : PvH} {x : SX} (G : gM g) (M : cD h x) (O : okX x) (hP : ∀ h' : PvH, FRm h h' → ((readR x).1 = none → mR2 h' (readR x).2) → P (some (.int (fauA x))) g h') : pv_run (d + 5) 114 [.ref 102] g h P := by
  have hN := O.N76
  have fail : ∀ (h' : PvH) (p : Nat), FRm h h' → (readR x).1 = some p → P (some (.int (nI p))) g h' := fun h' p F e => by
    have := hP h' F
    unfold fauA at this
    rw [e] at this
    exact this (fun z => by cases z)
  -- parts
  have l3 : ∀ m p (s : RS) (h1 : PvH) (x1 x2 x3 : Option Value), xN x - p ≤ m → p ≤ xN x → FRm h h1 → h1 102 3 = nI p → okA s → aS s = 4 → mR2 h1 s → readR x = rg (xX x) (xN x - p) p s → pv_E (d + 4) 114 P 155 [some (.ref 102), x1, x2, x3] [] 0 0 g h1 := by
    intro m
    induction m with
    | zero =>
      intro p s h1 x1 x2 x3 hm hp F e3 A h4 C e
      have hp : p = xN x := by omega
      subst hp
      have N := F.cD M
      simp only [z114_155, z114_156, z114_159, z114_160, z114_163, z114_178, z114_180, pv_catN, pv_cat1, pv_cat2, pv_cat3, pv_catL, Option.toList, List.nil_append, List.cons_append, List.append_nil, pv_rfS, pn_i, pn_r, pn_n, pn_o, true_and, and_true, Nat.le_refl, and_self, true_implies, false_implies, not_true_eq_false, not_false_eq_true, pv_b0, pv_b01, pv_bn0, pv_b1, Bool.false_eq_true, Bool.true_eq_false, Bool.not_false, Bool.not_true, pv_bT, pv_bF, eq_self, true_or, or_true, G.o, e3, N.N, nI_le' (show xN x < 2 ^ 31 by omega) (show xN x < 2 ^ 31 by omega)]
      rw [Nat.sub_self] at e
      unfold rg at e
      rw [if_pos h4] at e
      have := hP h1 F
      unfold fauA at this
      rw [e] at this
      exact this (fun _ => C)
    | succ m ih =>
      intro p s h1 x1 x2 x3 hm hp F e3 A h4 C e
      have N := F.cD M
      by_cases hpe : p = xN x
      · subst hpe
        exact ih (xN x) s h1 x1 x2 x3 (by omega) hp F e3 A h4 C e
      · simp only [z114_155, z114_156, z114_159, z114_160, z114_163, z114_166, pv_catN, pv_cat1, pv_cat2, pv_cat3, pv_catL, Option.toList, List.nil_append, List.cons_append, List.append_nil, pv_rfS, pn_i, pn_r, pn_n, pn_o, true_and, and_true, Nat.le_refl, and_self, true_implies, false_implies, not_true_eq_false, not_false_eq_true, pv_b0, pv_b01, pv_bn0, pv_b1, Bool.false_eq_true, Bool.true_eq_false, Bool.not_false, Bool.not_true, pv_bT, pv_bF, eq_self, true_or, or_true, G.o, e3, N.N, nI_le' (show xN x < 2 ^ 31 by omega) (show p < 2 ^ 31 by omega), show (xN x ≤ p) = False from eq_false (by omega)]
        rw [z114_167 (by simp [pv_cat, Value.category]) (by decide)]
        refine ⟨G.o, m113 G N O C A h4 (by omega) e3 ⟨fun h2 p2 F2 hp2 e2 hr => ?_, fun h2 p2 s2 F2 e2 hlt hp2 A2 k4 C2 hr => ?_⟩⟩
        · simp only [z114_170, z114_173, z114_174, z114_177, pv_catN, pv_cat1, pv_cat2, pv_cat3, pv_catL, Option.toList, List.nil_append, List.cons_append, List.append_nil, pv_rfS, pn_i, pn_r, pn_n, pn_o, true_and, and_true, Nat.le_refl, and_self, true_implies, false_implies, not_true_eq_false, not_false_eq_true, pv_b0, pv_b01, pv_bn0, pv_b1, Bool.false_eq_true, Bool.true_eq_false, Bool.not_false, Bool.not_true, pv_bT, pv_bF, eq_self, true_or, or_true, G.o, e2]
          exact fail h2 p2 (F.tr F2) (by rw [e]; exact hr)
        · simp only [z114_170, pv_catN, pv_cat1, pv_cat2, pv_cat3, pv_catL, Option.toList, List.nil_append, List.cons_append, List.append_nil, pv_rfS, pn_i, pn_r, pn_n, pn_o, true_and, and_true, Nat.le_refl, and_self, true_implies, false_implies, not_true_eq_false, not_false_eq_true, pv_b0, pv_b01, pv_bn0, pv_b1, Bool.false_eq_true, Bool.true_eq_false, Bool.not_false, Bool.not_true, pv_bT, pv_bF, eq_self, true_or, or_true, i10]
          exact ih p2 s2 h2 _ _ _ (by omega) hp2 (F.tr F2) e2 A2 k4 C2 (by rw [e]; exact hr)
  -- floors
  have l2 : ∀ n L p (s : RS) (h1 : PvH) (x2 x3 : Option Value), pv_nl x2 = true → L + n = aF s → aL s = L → (0 < n → aS s = 2) → (n = 0 → aS s = 4) → p ≤ xN x → FRm h h1 → h1 102 3 = nI p → okA s → 2 ≤ aS s → mR2 h1 s → readR x = rg (xX x) (xN x - p) p s → pv_E (d + 4) 114 P 79 [some (.ref 102), some (.int (nI L)), x2, x3] [] 0 0 g h1 := by
    intro n
    induction n with
    | zero =>
      intro L p s h1 x2 x3 hx2 hL hL2 h2 h4 hp F e3 A hS C e
      have hF := A.F hS
      simp only [z114_79, z114_80, z114_81, z114_84, pv_catN, pv_cat1, pv_cat2, pv_cat3, pv_catL, Option.toList, List.nil_append, List.cons_append, List.append_nil, pv_rfS, pn_i, pn_r, pn_n, pn_o, true_and, and_true, Nat.le_refl, and_self, true_implies, false_implies, not_true_eq_false, not_false_eq_true, pv_b0, pv_b01, pv_bn0, pv_b1, Bool.false_eq_true, Bool.true_eq_false, Bool.not_false, Bool.not_true, pv_bT, pv_bF, eq_self, true_or, or_true, G.o, C.1, nI_le' (show aF s < 2 ^ 31 by omega) (show L < 2 ^ 31 by omega), show (aF s ≤ L) = True from eq_true (by omega)]
      exact l3 (xN x - p) p s h1 _ _ _ (Nat.le_refl _) hp F e3 A (h4 rfl) C e
    | succ n ih =>
      intro L p s h1 x2 x3 hx2 hL hL2 h2 h4 hp F e3 A hS C e
      have hF := A.F hS
      have h2 := h2 (by omega)
      have N := F.cD M
      simp only [z114_79, z114_80, z114_81, z114_84, z114_87, z114_88, z114_89, pv_catN, pv_cat1, pv_cat2, pv_cat3, pv_catL, Option.toList, List.nil_append, List.cons_append, List.append_nil, pv_rfS, pn_i, pn_r, pn_n, pn_o, true_and, and_true, Nat.le_refl, and_self, true_implies, false_implies, not_true_eq_false, not_false_eq_true, pv_b0, pv_b01, pv_bn0, pv_b1, Bool.false_eq_true, Bool.true_eq_false, Bool.not_false, Bool.not_true, pv_bT, pv_bF, eq_self, true_or, or_true, G.o, C.1, nI_le' (show aF s < 2 ^ 31 by omega) (show L < 2 ^ 31 by omega), show (aF s ≤ L) = False from eq_false (by omega)]
      rw [z114_91 (by simp [pv_cat, Value.category]) (by decide)]
      refine ⟨G.o, m106 (lo := 0) (hi := 9) G N O hp e3 (by omega) (by omega) (fun hb => ?_) (fun T hpN hX _ hT => ?_)⟩
      · simp only [z114_94, z114_95, z114_96, z114_98, z114_101, z114_103, z114_113, z114_114, z114_115, z114_117, z114_120, z114_121, z114_124, pv_catN, pv_cat1, pv_cat2, pv_cat3, pv_catL, Option.toList, List.nil_append, List.cons_append, List.append_nil, pv_rfS, pn_i, pn_r, pn_n, pn_o, true_and, and_true, Nat.le_refl, and_self, true_implies, false_implies, not_true_eq_false, not_false_eq_true, pv_b0, pv_b01, pv_bn0, pv_b1, Bool.false_eq_true, Bool.true_eq_false, Bool.not_false, Bool.not_true, pv_bT, pv_bF, eq_self, true_or, or_true, G.o, e3, hx2]
        refine fail h1 p F ?_
        rw [e]
        exact rg_f hp (by omega) (hb.imp id (fun z => tk_no (by omega) (by omega) (fun f hf9 hf => absurd ⟨Nat.zero_le f, hf9⟩ hf) z))
      · have q : ∀ o, o ≠ 102 → pv_st h1 102 3 (nI (p + 1)) o = h1 o := fun o a => st_o a
        have tf2 : tf s T = t2 s T := by unfold tf; rw [if_neg (by omega), if_pos h2]
        have A3 : okA (3, aL s, T, aw s, av s, aa s, ak s, ai s, aF s, aB s, aM s, aR s, aW s, aV s, aA s, aK s, aG s, aC s) := t2_ok A h2 hT rfl
        have r3 : readR x = rg (xX x) (xN x - (p + 1)) (p + 1) (3, aL s, T, aw s, av s, aa s, ak s, ai s, aF s, aB s, aM s, aR s, aW s, aV s, aA s, aK s, aG s, aC s) := e.trans (rg_t hpN (by rw [tk_yes (by omega) (by omega) hT hX, tf2]; rfl))
        simp only [z114_94, z114_95, z114_96, z114_98, z114_106, z114_107, z114_108, pv_catN, pv_cat1, pv_cat2, pv_cat3, pv_catL, Option.toList, List.nil_append, List.cons_append, List.append_nil, pv_rfS, pn_i, pn_r, pn_n, pn_o, true_and, and_true, Nat.le_refl, and_self, true_implies, false_implies, not_true_eq_false, not_false_eq_true, pv_b0, pv_b01, pv_bn0, pv_b1, Bool.false_eq_true, Bool.true_eq_false, Bool.not_false, Bool.not_true, pv_bT, pv_bF, eq_self, true_or, or_true, G.o, n9 (show T < 2 ^ 30 by omega), hx2]
        rw [z114_110 (by simp [pv_cat, Value.category]) (by decide)]
        refine ⟨G.o, m106 (lo := 0) (hi := 9) (p := p + 1) G N.p O (by omega) st_at (by omega) (by omega) (fun hb => ?_) (fun f hpN2 hX2 _ hf => ?_)⟩
        · simp only [z114_113, z114_114, z114_115, z114_117, z114_120, z114_121, z114_124, pv_catN, pv_cat1, pv_cat2, pv_cat3, pv_catL, Option.toList, List.nil_append, List.cons_append, List.append_nil, pv_rfS, pn_i, pn_r, pn_n, pn_o, true_and, and_true, Nat.le_refl, and_self, true_implies, false_implies, not_true_eq_false, not_false_eq_true, pv_b0, pv_b01, pv_bn0, pv_b1, Bool.false_eq_true, Bool.true_eq_false, Bool.not_false, Bool.not_true, pv_bT, pv_bF, eq_self, true_or, or_true, G.o, st_at]
          refine fail _ (p + 1) (F.sk (by omega)) ?_
          rw [r3]
          exact rg_f (by omega) (by show (3 : Nat) ≠ 4; decide) (hb.imp id (fun z => tk_no (by show (3 : Nat) ≠ 0; decide) (by show (3 : Nat) ≠ 4; decide) (fun f hf9 hf => absurd ⟨Nat.zero_le f, hf9⟩ hf) z))
        · have tf3 : tf (3, aL s, T, aw s, av s, aa s, ak s, ai s, aF s, aB s, aM s, aR s, aW s, aV s, aA s, aK s, aG s, aC s) f = t3 (3, aL s, T, aw s, av s, aa s, ak s, ai s, aF s, aB s, aM s, aR s, aW s, aV s, aA s, aK s, aG s, aC s) f := rfl
          have ht3 : t3 (3, aL s, T, aw s, av s, aa s, ak s, ai s, aF s, aB s, aM s, aR s, aW s, aV s, aA s, aK s, aG s, aC s) f = some (if aL s + 1 < aF s then 2 else 4, aL s + 1, T, aw s, av s, aa s, ak s, ai s, aF s, updN (aB s) (aL s) (10 * T + f), updN (aM s) (aL s) (10 * T + f), aR s, aW s, aV s, aA s, aK s, aG s, aC s) := rfl
          have A4 := t3_ok A3 rfl hf ht3
          have r4 := r3.trans (rg_t hpN2 (by rw [tk_yes (by show (3 : Nat) ≠ 0; decide) (by show (3 : Nat) ≠ 4; decide) hf hX2, tf3, ht3]))
          have e10 : (10 : Int32) * nI T = nI (10 * T) := pk_mul 10 _
          have hL5 : L < 5 := by omega
          simp only [z114_113, z114_114, z114_115, z114_117, z114_125, z114_126, z114_129, z114_130, z114_132, z114_133, z114_134, z114_135, z114_136, z114_137, z114_138, z114_141, z114_142, z114_143, z114_146, z114_147, z114_148, z114_149, z114_152, pv_catN, pv_cat1, pv_cat2, pv_cat3, pv_catL, Option.toList, List.nil_append, List.cons_append, List.append_nil, pv_rfS, pn_i, pn_r, pn_n, pn_o, true_and, and_true, Nat.le_refl, and_self, true_implies, false_implies, not_true_eq_false, not_false_eq_true, pv_b0, pv_b01, pv_bn0, pv_b1, Bool.false_eq_true, Bool.true_eq_false, Bool.not_false, Bool.not_true, pv_bT, pv_bF, eq_self, true_or, or_true, G.o, G.r19, G.t113, G.r20, G.t114, n9 (show f < 2 ^ 30 by omega), e10, nI_add, vp_nI hL5 (show 5 < 2 ^ 31 by decide), nI_clamp (show L < 2 ^ 31 by omega), st_at, nI_1]
          have hcs : ∀ S : Nat, (if aL s + 1 < aF s then 2 else 4) = S → 2 ≤ S → pv_E (d + 4) 114 P 79 [some (.ref 102), some (.int (nI (L + 1))), some (.int (nI T)), some (.int (nI f))] [] 0 0 g (pv_st (pv_st (pv_st (pv_st h1 102 3 (nI (p + 1))) 102 3 (nI (p + 1 + 1))) 113 L (nI (10 * T + f))) 114 L (nI (10 * T + f))) := fun S hSS hS2 => by
            rw [hSS] at A4 r4
            refine ih (L + 1) (p + 1 + 1) (S, aL s + 1, T, aw s, av s, aa s, ak s, ai s, aF s, updN (aB s) (aL s) (10 * T + f), updN (aM s) (aL s) (10 * T + f), aR s, aW s, aV s, aA s, aK s, aG s, aC s) _ _ _ rfl (show L + 1 + n = aF s by omega) (by show aL s + 1 = L + 1; omega) (fun z => ?_) (fun z => ?_) (by omega) (((F.sk (by omega)).sk (by omega)).so (by omega) |>.so (by omega)) ?_ A4 (show 2 ≤ S from hS2) ⟨?_, ?_, fun f' hf' => ⟨?_, ?_⟩, fun r hr => ?_, fun i j hi hj => ?_⟩ r4
            · show S = 2
              rw [← hSS, if_pos (by omega)]
            · show S = 4
              rw [← hSS, if_neg (by omega)]
            · rw [st_o (by decide), st_o (by decide), st_at]
            · rw [st_o (by decide), st_o (by decide), st_k (by decide), st_k (by decide)]; exact C.1
            · rw [st_o (by decide), st_o (by decide), st_k (by decide), st_k (by decide)]; exact C.2.1
            · have hf' : f' < aL s + 1 := hf'
              rw [hL2]
              refine st_up rfl (fun z => ?_)
              rw [st_o (by decide), st_o (by decide), st_o (by decide)]
              exact (C.2.2.1 f' (by omega)).1
            · have hf' : f' < aL s + 1 := hf'
              rw [st_o (by decide), hL2]
              refine st_up rfl (fun z => ?_)
              rw [st_o (by decide), st_o (by decide)]
              exact (C.2.2.1 f' (by omega)).2
            · rw [st_o (by decide), st_o (by decide), st_o (by decide), st_o (by decide)]
              exact C.2.2.2.1 r hr
            · rw [st_o (by decide), st_o (by decide), st_o (by decide), st_o (by decide)]
              exact C.2.2.2.2 i j hi hj
          by_cases c : aL s + 1 < aF s
          · exact hcs 2 (if_pos c) (by decide)
          · exact hcs 4 (if_neg c) (by decide)
  -- the beginning
  have l1 : ∀ n k (h1 : PvH), k + n = 64 → FRm h h1 → h1 102 3 = nI 0 → h1 102 21 = nI 0 → (∀ j, j < k → h1 116 j = 0) → pv_E (d + 4) 114 P 12 [some (.ref 102), some (.int (nI k)), none, none] [] 0 0 g h1 := by
    intro n
    induction n with
    | succ n ih =>
      intro k h1 hk F e3 e21 z
      have hc : ((64 : Int32) ≤ nI k) = False := eq_false (by rw [show (64 : Int32) = nI 64 from rfl, nI_le' (by decide) (by omega)]; omega)
      rw [z114_12]
      simp only [z114_13, z114_15, z114_18, z114_19, z114_22, z114_23, z114_24, z114_25, z114_28, pv_catN, pv_cat1, pv_cat2, pv_cat3, pv_catL, Option.toList, List.nil_append, List.cons_append, List.append_nil, pv_rfS, pn_i, pn_r, pn_n, pn_o, true_and, and_true, Nat.le_refl, and_self, true_implies, false_implies, not_true_eq_false, not_false_eq_true, pv_b0, pv_b01, pv_bn0, pv_b1, Bool.false_eq_true, Bool.true_eq_false, Bool.not_false, Bool.not_true, pv_bT, pv_bF, eq_self, true_or, or_true, hc, G.o, G.r23, G.t116, vp_nI (show k < 64 by omega) (show 64 < 2 ^ 31 by decide), nI_clamp (show k < 2 ^ 31 by omega), nI_1]
      refine ih (k + 1) _ (by omega) (F.so (by omega)) (by rw [st_o (by decide)]; exact e3) (by rw [st_o (by decide)]; exact e21) (fun j hj => ?_)
      by_cases y : j = k
      · rw [y, st_at]
      · rw [st_k y]; exact z j (by omega)
    | zero =>
      intro k h1 hk F e3 e21 z
      have hk : k = 64 := hk
      subst hk
      have N := F.cD M
      have e0 : (nI (xN x) = 0) = (xN x = 0) := nI_eq' (b := 0) (by omega) (by decide)
      have v0 : vp_in 0 76 = True := vp_nI (n := 0) (by decide) (by decide)
      have hr0 : readR x = rg (xX x) (xN x - 0) 0 s0 := by rw [Nat.sub_zero]; rfl
      rw [z114_12]
      simp only [z114_13, z114_15, z114_31, z114_32, z114_35, z114_49, z114_50, pv_catN, pv_cat1, pv_cat2, pv_cat3, pv_catL, Option.toList, List.nil_append, List.cons_append, List.append_nil, pv_rfS, pn_i, pn_r, pn_n, pn_o, true_and, and_true, Nat.le_refl, and_self, true_implies, false_implies, not_true_eq_false, not_false_eq_true, pv_b0, pv_b01, pv_bn0, pv_b1, Bool.false_eq_true, Bool.true_eq_false, Bool.not_false, Bool.not_true, pv_bT, pv_bF, eq_self, true_or, or_true, show ((64 : Int32) ≤ nI 64) = True from eq_true (by decide), G.o, N.N, e0]
      refine ⟨fun c => ?_, fun c => ?_⟩
      · refine fail h1 0 F ?_
        rw [hr0]
        exact rg_f (Nat.zero_le _) (by show (0 : Nat) ≠ 4; decide) (Or.inl c.symm)
      · have hX := O.X8 0 (by omega)
        have e84 : (nI (xX x 0) = 84) = (xX x 0 = 84) := nI_eq' (b := 84) (by omega) (by decide)
        simp only [z114_38, z114_39, z114_42, z114_43, z114_44, z114_46, z114_49, z114_50, z114_51, z114_52, z114_53, z114_56, z114_57, z114_58, z114_59, pv_catN, pv_cat1, pv_cat2, pv_cat3, pv_catL, Option.toList, List.nil_append, List.cons_append, List.append_nil, pv_rfS, pn_i, pn_r, pn_n, pn_o, true_and, and_true, Nat.le_refl, and_self, true_implies, false_implies, not_true_eq_false, not_false_eq_true, pv_b0, pv_b01, pv_bn0, pv_b1, Bool.false_eq_true, Bool.true_eq_false, Bool.not_false, Bool.not_true, pv_bT, pv_bF, eq_self, true_or, or_true, G.o, G.r1, G.t103, v0, cl0, N.Y 0 (by omega), e84]
        have tk0 : tk s0 (xX x 0) = t0 s0 (xX x 0) := by unfold tk; rw [if_pos (show aS s0 = 0 from rfl)]
        refine ⟨fun c2 => ?_, fun c2 => ?_⟩
        rotate_left
        · refine fail h1 0 F ?_
          rw [hr0]
          exact rg_f (Nat.zero_le _) (by show (0 : Nat) ≠ 4; decide) (Or.inr (by rw [tk0]; unfold t0; rw [if_neg c2]))
        · have ht0 : t0 s0 (xX x 0) = some (1, 0, 0, 0, 0, 0, 0, 0, 0, fun _ => 0, fun _ => 0, 0, fun _ => 0, fun _ => 0, fun _ => 0, fun _ => 0, fun _ => 0, fun _ => 0) := by
            unfold t0
            rw [if_pos c2]
            rfl
          have A1 := t0_ok s0_ok rfl ht0
          have r1 := hr0.trans (rg_t (show 0 < xN x by omega) (by rw [tk0, ht0]))
          have F1 : FRm h (pv_st h1 102 3 1) := F.sk (by omega)
          rw [z114_60 (by simp [pv_cat, Value.category]) (by decide)]
          refine ⟨G.o, m106 (lo := 2) (hi := 5) (p := 1) G (F1.cD M) O (by omega) (by rw [st_at]; rfl) (by omega) (by omega) (fun hb => ?_) (fun f hpN hXf hf2 hf5 => ?_)⟩
          · simp only [z114_63, z114_66, z114_67, z114_70, z114_72, z114_75, z114_76, pv_catN, pv_cat1, pv_cat2, pv_cat3, pv_catL, Option.toList, List.nil_append, List.cons_append, List.append_nil, pv_rfS, pn_i, pn_r, pn_n, pn_o, true_and, and_true, Nat.le_refl, and_self, true_implies, false_implies, not_true_eq_false, not_false_eq_true, pv_b0, pv_b01, pv_bn0, pv_b1, Bool.false_eq_true, Bool.true_eq_false, Bool.not_false, Bool.not_true, pv_bT, pv_bF, eq_self, true_or, or_true, G.o, st_at]
            refine fail _ 1 (F1.sk (by omega)) ?_
            rw [r1]
            refine rg_f (by omega) (by show (1 : Nat) ≠ 4; decide) (hb.imp id (fun z => tk_no (by show (1 : Nat) ≠ 0; decide) (by show (1 : Nat) ≠ 4; decide) (fun f hf9 hf => ?_) z))
            show t1 _ f = none
            unfold t1
            rw [if_neg hf]
          · have ht1 : t1 (1, 0, 0, 0, 0, 0, 0, 0, 0, fun _ => 0, fun _ => 0, 0, fun _ => 0, fun _ => 0, fun _ => 0, fun _ => 0, fun _ => 0, fun _ => 0) f = some (2, 0, 0, 0, 0, 0, 0, 0, f, fun _ => 0, fun _ => 0, 0, fun _ => 0, fun _ => 0, fun _ => 0, fun _ => 0, fun _ => 0, fun _ => 0) := by
              unfold t1
              rw [if_pos ⟨hf2, hf5⟩]
              rfl
            have A2 := t1_ok A1 rfl ht1
            have r2 := r1.trans (rg_t (show 0 + 1 < xN x by omega) (by rw [tk_yes (by show (1 : Nat) ≠ 0; decide) (by show (1 : Nat) ≠ 4; decide) (show f ≤ 9 by omega) hXf]; exact ht1))
            simp only [z114_63, z114_66, z114_67, z114_70, z114_72, z114_77, z114_78, pv_catN, pv_cat1, pv_cat2, pv_cat3, pv_catL, Option.toList, List.nil_append, List.cons_append, List.append_nil, pv_rfS, pn_i, pn_r, pn_n, pn_o, true_and, and_true, Nat.le_refl, and_self, true_implies, false_implies, not_true_eq_false, not_false_eq_true, pv_b0, pv_b01, pv_bn0, pv_b1, Bool.false_eq_true, Bool.true_eq_false, Bool.not_false, Bool.not_true, pv_bT, pv_bF, eq_self, true_or, or_true, G.o, st_at, n9 (show f < 2 ^ 30 by omega)]
            refine l2 f 0 2 (2, 0, 0, 0, 0, 0, 0, 0, f, fun _ => 0, fun _ => 0, 0, fun _ => 0, fun _ => 0, fun _ => 0, fun _ => 0, fun _ => 0, fun _ => 0) _ none none rfl (Nat.zero_add f) rfl (fun _ => rfl) (fun z => absurd z (by omega)) (by omega) ((F1.sk (by omega)).sk (by omega)) (by rw [st_k (by decide), st_at]) A2 (Nat.le_refl 2) ⟨by rw [st_at]; rfl, by rw [st_k (by decide), st_k (by decide), st_k (by decide)]; exact e21, fun f hf => absurd hf (Nat.not_lt_zero f), fun f hf => absurd hf (Nat.not_lt_zero f), fun i j hi hj => ?_⟩ r2
            rw [st_o (by decide), st_o (by decide), st_o (by decide), z _ (by omega)]
            show (0 : Int32) = pv_b (Nat.testBit 0 j)
            rw [Nat.zero_testBit]
            rfl
  simp only [e114, z114_0, z114_1, z114_2, z114_5, z114_6, z114_7, z114_10, z114_11, pv_catN, pv_cat1, pv_cat2, pv_cat3, pv_catL, Option.toList, List.nil_append, List.cons_append, List.append_nil, pv_rfS, pn_i, pn_r, pn_n, pn_o, true_and, and_true, Nat.le_refl, and_self, true_implies, false_implies, not_true_eq_false, not_false_eq_true, pv_b0, pv_b01, pv_bn0, pv_b1, Bool.false_eq_true, Bool.true_eq_false, Bool.not_false, Bool.not_true, pv_bT, pv_bF, eq_self, true_or, or_true, G.o]
  exact l1 64 0 _ rfl ((FRm.rf.sk (by omega)).sk (by omega)) (by rw [st_k (by decide), st_at]; rfl) (by rw [st_at]; rfl) (fun j hj => absurd hj (Nat.not_lt_zero j))
theorem oM115 {x : SX} (O : okX x) : OpM 6 115 [] x (.int (fauA x)) x := by
  intro d P g h ⟨G, M0⟩ hP
  have M := M0.t0
  have F0 : FM h (pv_st h 102 0 0) := FM.rf.st (by omega)
  generalize hh : pv_st h 102 0 0 = h0 at M F0
  simp only [e115, z115_0, z115_1, z115_2, z115_5, pv_catN, pv_cat1, pv_cat2, pv_cat3, pv_catL, Option.toList, List.nil_append, List.cons_append, List.append_nil, pv_rfS, pn_i, pn_r, pn_n, pn_o, true_and, and_true, Nat.le_refl, and_self, true_implies, false_implies, not_true_eq_false, not_false_eq_true, pv_b0, pv_b01, pv_bn0, pv_b1, Bool.false_eq_true, Bool.true_eq_false, Bool.not_false, Bool.not_true, pv_bT, pv_bF, eq_self, true_or, or_true, G.o, hh]
  rw [z115_6 (by simp [pv_cat, Value.category]) (by decide)]
  refine ⟨G.o, m114 G M O fun h1 F1 _ => ?_⟩
  simp only [z115_9, pv_catN, pv_cat1, pv_cat2, pv_cat3, pv_catL, Option.toList, List.nil_append, List.cons_append, List.append_nil, pv_rfS, pn_i, pn_r, pn_n, pn_o, true_and, and_true, Nat.le_refl, and_self, true_implies, false_implies, not_true_eq_false, not_false_eq_true, pv_b0, pv_b01, pv_bn0, pv_b1, Bool.false_eq_true, Bool.true_eq_false, Bool.not_false, Bool.not_true, pv_bT, pv_bF, eq_self, true_or, or_true]
  exact hP h1 ⟨G, F1.cD M⟩ (F0.tr (fun o ho => F1.1 o (by omega) (by omega) (by omega) (by omega) (by omega)))
