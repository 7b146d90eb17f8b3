/-! THE READER of the model: a citation, a part -/
theorem tf10 {s : RS} {f : Nat} (h : aS s = 10) : tf s f = t10 s f := by unfold tf; rw [if_neg (by omega), if_neg (by omega), if_neg (by omega), if_neg (by omega), if_neg (by omega), if_neg (by omega), if_neg (by omega), if_neg (by omega), if_pos h]
theorem tf11 {s : RS} {f : Nat} (h : aS s = 11) : tf s f = t11 s f := by unfold tf; rw [if_neg (by omega), if_neg (by omega), if_neg (by omega), if_neg (by omega), if_neg (by omega), if_neg (by omega), if_neg (by omega), if_neg (by omega), if_neg (by omega), if_pos h]
def cS' (s : RS) (S i : Nat) : RS := (S, aL s, aT s, aw s, av s, aa s, ak s, i, aF s, aB s, aM s, aR s, aW s, aV s, aA s, aK s, aG s, aC s)
theorem tk_nf {s : RS} {c : Nat} (h0 : aS s ≠ 0) (h4 : aS s ≠ 4) (h : ∀ f, c = 48 + f → f ≤ 9 → tf s f = none) : tk s c = none := by
  rw [tk_f h0 h4]
  split
  · exact h _ (by omega) (by omega)
  · rfl
set_option maxHeartbeats 1000000 in
theorem m112 {d : Nat} {P : PvP} {g : PvG} {h : PvH} {x : SX} {s : RS} (G : gM g) (M : cD h x) (O : okX x) (C : mR2 h s) (A : okA s) (h10 : aS s = 10) (hR0 : 0 < aR s) {p : Nat} (hp : p ≤ xN x) (e3 : h 102 3 = nI p) (hP : RT P g h x (rg (xX x) (xN x - p) p s) p) : pv_run (d + 2) 112 [.ref 102] g h P := by
  have hN := O.N76
  have hR := A.R
  have pl : ∀ q : Nat, ∀ v, pv_st (pv_st h 102 3 (nI q)) 102 3 v = pv_st h 102 3 v := fun q v => by
    funext o k
    by_cases z : o = 102 ∧ k = 3
    · obtain ⟨rfl, rfl⟩ := z
      rw [st_at, st_at]
    · simp [pv_st, z]
  have eR : nI (aR s) - 1 = nI (aR s - 1) := pk_sub (b := 1) (by omega)
  have l0 : (0 : Int64) = (nI 0).toInt64 := rfl
  have d9 : decide ((0 : Int64) ≤ (-9 : Int32).toInt64 ∧ (-9 : Int32).toInt64 ≤ (nI (aR s - 1)).toInt64) = false := decide_eq_false (fun z => absurd z.1 (by decide))
  have dX : ∀ c, c < 256 → decide ((0 : Int64) ≤ (nI c - 48).toInt64 ∧ (nI c - 48).toInt64 ≤ (nI (aR s - 1)).toInt64) = decide (48 ≤ c ∧ c < 48 + aR s) := fun c hc => by
    rw [l0, in48 hc (by omega) (by omega)]
    exact decide_eq_decide.mpr (by omega)
  -- the first figure is refused
  have bad1 : (rg (xX x) (xN x - p) p s).1 = some p → P (some (.int 0)) g h := fun e => hP.1 h p FRm.rf hp e3 e
  simp only [e112, z112_0, z112_1, z112_4, z112_5, z112_8, z112_26, pv_catN, pv_cat1, pv_cat2, pv_cat3, pv_catL, Option.toList, List.nil_append, List.cons_append, List.append_nil, pv_rfS, pn_i, pn_r, pn_n, pn_o, true_and, and_true, Nat.le_refl, and_self, true_implies, false_implies, not_true_eq_false, not_false_eq_true, pv_b0, pv_b01, pv_bn0, pv_b1, Bool.false_eq_true, Bool.true_eq_false, Bool.not_false, Bool.not_true, pv_bT, pv_bF, eq_self, true_or, or_true, G.o, e3, M.N, nI_le' (show xN x < 2 ^ 31 by omega) (show p < 2 ^ 31 by omega)]
  refine ⟨fun c => ?_, fun c => ?_⟩
  · simp only [z112_28, z112_29, z112_30, z112_31, z112_32, z112_33, z112_36, z112_37, z112_38, z112_39, z112_42, z112_53, z112_54, pv_catN, pv_cat1, pv_cat2, pv_cat3, pv_catL, Option.toList, List.nil_append, List.cons_append, List.append_nil, pv_rfS, pn_i, pn_r, pn_n, pn_o, true_and, and_true, Nat.le_refl, and_self, true_implies, false_implies, not_true_eq_false, not_false_eq_true, pv_b0, pv_b01, pv_bn0, pv_b1, Bool.false_eq_true, Bool.true_eq_false, Bool.not_false, Bool.not_true, pv_bT, pv_bF, eq_self, true_or, or_true, G.o, C.2.1, eR, m100, d9]
    exact bad1 (rg_f hp (by omega) (Or.inl (by omega)))
  · have hpN : p < xN x := by omega
    have hX := O.X8 p hpN
    simp only [z112_11, z112_12, z112_15, z112_16, z112_19, z112_20, z112_22, z112_23, z112_28, z112_29, z112_30, z112_31, z112_32, z112_33, z112_36, z112_37, z112_38, z112_39, z112_42, z112_53, z112_54, pv_catN, pv_cat1, pv_cat2, pv_cat3, pv_catL, Option.toList, List.nil_append, List.cons_append, List.append_nil, pv_rfS, pn_i, pn_r, pn_n, pn_o, true_and, and_true, Nat.le_refl, and_self, true_implies, false_implies, not_true_eq_false, not_false_eq_true, pv_b0, pv_b01, pv_bn0, pv_b1, Bool.false_eq_true, Bool.true_eq_false, Bool.not_false, Bool.not_true, pv_bT, pv_bF, eq_self, true_or, or_true, G.o, G.r1, G.t103, e3, vp_nI (show p < 76 by omega) (show 76 < 2 ^ 31 by decide), nI_clamp (show p < 2 ^ 31 by omega), M.Y p hpN, C.2.1, eR, m100, dX _ hX]
    cases hd : decide (48 ≤ xX x p ∧ xX x p < 48 + aR s) with
    | false =>
      have hd := of_decide_eq_false hd
      refine ⟨fun _ => bad1 (rg_f hp (by omega) (Or.inr (tk_nf (by omega) (by omega) (fun f hf hf9 => ?_)))), fun c2 => absurd rfl c2⟩
      rw [tf10 h10]
      unfold t10 aCan
      rw [decide_eq_false (by omega), Bool.false_and, if_neg Bool.false_ne_true]
    | true =>
      have hd := of_decide_eq_true hd
      refine ⟨fun c2 => (by cases c2), fun _ => ?_⟩
      obtain ⟨i, hi⟩ : ∃ i, xX x p = 48 + i := ⟨xX x p - 48, by omega⟩
      have es : nI (xX x p) - 48 = nI i := by
        rw [show nI (xX x p) - 48 = nI (xX x p - 48) from pk_sub (b := 48) (by omega)]
        congr 1
        omega
      have hiR : i < aR s := by omega
      simp only [z112_45, z112_46, es]
      rw [z112_47 (by simp [pv_cat, Value.category]) (by decide)]
      refine ⟨G.o, m110 G C A hiR ?_⟩
      simp only [z112_50, z112_53, z112_54, pv_catN, pv_cat1, pv_cat2, pv_cat3, pv_catL, Option.toList, List.nil_append, List.cons_append, List.append_nil, pv_rfS, pn_i, pn_r, pn_n, pn_o, true_and, and_true, Nat.le_refl, and_self, true_implies, false_implies, not_true_eq_false, not_false_eq_true, pv_b0, pv_b01, pv_bn0, pv_b1, Bool.false_eq_true, Bool.true_eq_false, Bool.not_false, Bool.not_true, pv_bT, pv_bF, eq_self, true_or, or_true]
      refine ⟨fun c2 => ?_, fun c2 => ?_⟩
      rotate_left
      · refine bad1 (rg_f hp (by omega) (Or.inr ?_))
        rw [tk_yes (by omega) (by omega) (show i ≤ 9 by omega) hi, tf10 h10]
        unfold t10 aCan
        rw [Classical.not_not.mp c2, Bool.and_false, if_neg Bool.false_ne_true]
      · have c2 : anyN (aCit s i) (aR s) = true := by
          cases z : anyN (aCit s i) (aR s) with
          | false => exact absurd z c2
          | true => rfl
        have hcan : aCan s i = true := by unfold aCan; rw [decide_eq_true hiR, c2]; rfl
        have ht : t10 s i = some (cS' s 11 i) := by unfold t10; rw [if_pos hcan]; rfl
        have A11 : okA (cS' s 11 i) := t10_ok A h10 (by omega) ht
        have r11 : rg (xX x) (xN x - p) p s = rg (xX x) (xN x - (p + 1)) (p + 1) (cS' s 11 i) := rg_t hpN (by rw [tk_yes (by omega) (by omega) (show i ≤ 9 by omega) hi, tf10 h10, ht])
        have hcan11 : aCan (cS' s 11 i) i = true := hcan
        have bad2 : (rg (xX x) (xN x - p) p s).1 = some (p + 1) → P (some (.int 0)) g (pv_st h 102 3 (nI (p + 1))) := fun e => hP.1 _ (p + 1) (FRm.rf.sk (by omega)) (by omega) st_at e
        have t11n : ∀ f, ¬ (f < aR s ∧ aCit s i f = true) → t11 (cS' s 11 i) f = none := fun f hf => by
          unfold t11
          have : (aCan (cS' s 11 i) (ai (cS' s 11 i)) && (decide (f < aR (cS' s 11 i)) && aCit (cS' s 11 i) (ai (cS' s 11 i)) f)) = false := by
            show (aCan s i && (decide (f < aR s) && aCit s i f)) = false
            by_cases c : f < aR s
            · cases c3 : aCit s i f with
              | true => exact absurd ⟨c, c3⟩ hf
              | false => rw [Bool.and_false, Bool.and_false]
            · rw [decide_eq_false c, Bool.false_and, Bool.and_false]
          rw [this, if_neg Bool.false_ne_true]
        have q103 : ∀ (v : Int32), pv_st h 102 3 v 103 = h 103 := fun v => st_o (by decide)
        have q116 : ∀ (v : Int32), pv_st h 102 3 v 116 = h 116 := fun v => st_o (by decide)
        have q2 : ∀ (v : Int32), pv_st h 102 3 v 102 2 = h 102 2 := fun v => st_k (by decide)
        have q21 : ∀ (v : Int32), pv_st h 102 3 v 102 21 = h 102 21 := fun v => st_k (by decide)
        simp only [z112_55, z112_56, y112_56, z112_57, z112_60, z112_61, z112_62, z112_65, z112_66, z112_69, z112_70, z112_73, z112_91, pv_catN, pv_cat1, pv_cat2, pv_cat3, pv_catL, Option.toList, List.nil_append, List.cons_append, List.append_nil, pv_rfS, pn_i, pn_r, pn_n, pn_o, true_and, and_true, Nat.le_refl, and_self, true_implies, false_implies, not_true_eq_false, not_false_eq_true, pv_b0, pv_b01, pv_bn0, pv_b1, Bool.false_eq_true, Bool.true_eq_false, Bool.not_false, Bool.not_true, pv_bT, pv_bF, eq_self, true_or, or_true, G.o, e3, nI_1, st_at, q2, M.N, nI_le' (show xN x < 2 ^ 31 by omega) (show p + 1 < 2 ^ 31 by omega)]
        refine ⟨fun c3 => ?_, fun c3 => ?_⟩
        · simp only [z112_93, z112_94, z112_95, z112_96, z112_97, z112_98, z112_101, z112_102, z112_103, z112_104, z112_107, z112_129, z112_130, pv_catN, pv_cat1, pv_cat2, pv_cat3, pv_catL, Option.toList, List.nil_append, List.cons_append, List.append_nil, pv_rfS, pn_i, pn_r, pn_n, pn_o, true_and, and_true, Nat.le_refl, and_self, true_implies, false_implies, not_true_eq_false, not_false_eq_true, pv_b0, pv_b01, pv_bn0, pv_b1, Bool.false_eq_true, Bool.true_eq_false, Bool.not_false, Bool.not_true, pv_bT, pv_bF, eq_self, true_or, or_true, G.o, q21, C.2.1, eR, m100, d9]
          refine bad2 ?_
          rw [r11]
          exact rg_f (by omega) (by show (11 : Nat) ≠ 4; decide) (Or.inl (by omega))
        · have hpN2 : p + 1 < xN x := by omega
          have hX2 := O.X8 (p + 1) hpN2
          simp only [z112_76, z112_77, z112_80, z112_81, z112_84, z112_85, z112_87, z112_88, z112_93, z112_94, z112_95, z112_96, z112_97, z112_98, z112_101, z112_102, z112_103, z112_104, z112_107, z112_129, z112_130, pv_catN, pv_cat1, pv_cat2, pv_cat3, pv_catL, Option.toList, List.nil_append, List.cons_append, List.append_nil, pv_rfS, pn_i, pn_r, pn_n, pn_o, true_and, and_true, Nat.le_refl, and_self, true_implies, false_implies, not_true_eq_false, not_false_eq_true, pv_b0, pv_b01, pv_bn0, pv_b1, Bool.false_eq_true, Bool.true_eq_false, Bool.not_false, Bool.not_true, pv_bT, pv_bF, eq_self, true_or, or_true, G.o, G.r1, G.t103, st_at, q103, q21, vp_nI (show p + 1 < 76 by omega) (show 76 < 2 ^ 31 by decide), nI_clamp (show p + 1 < 2 ^ 31 by omega), M.Y (p + 1) hpN2, C.2.1, eR, m100, dX _ hX2]
          cases hd2 : decide (48 ≤ xX x (p + 1) ∧ xX x (p + 1) < 48 + aR s) with
          | false =>
            have hd2 := of_decide_eq_false hd2
            refine ⟨fun _ => bad2 ?_, fun c2 => absurd rfl c2⟩
            rw [r11]
            refine rg_f (by omega) (by show (11 : Nat) ≠ 4; decide) (Or.inr (tk_nf (by show (11 : Nat) ≠ 0; decide) (by show (11 : Nat) ≠ 4; decide) (fun f hf hf9 => ?_)))
            rw [tf11 rfl]
            exact t11n f (fun z => hd2 ⟨by omega, by omega⟩)
          | true =>
            have hd2 := of_decide_eq_true hd2
            refine ⟨fun c2 => (by cases c2), fun _ => ?_⟩
            obtain ⟨j, hj⟩ : ∃ j, xX x (p + 1) = 48 + j := ⟨xX x (p + 1) - 48, by omega⟩
            have es2 : nI (xX x (p + 1)) - 48 = nI j := by
              rw [show nI (xX x (p + 1)) - 48 = nI (xX x (p + 1) - 48) from pk_sub (b := 48) (by omega)]
              congr 1
              omega
            have hjR : j < aR s := by omega
            have e8 : (8 : Int32) * nI i = nI (8 * i) := pk_mul 8 i
            have key : aCit s i j = (!decide (j = i) && !(aC s i).testBit j) := rfl
            have no : aCit s i j = false → P (some (.int 0)) g (pv_st h 102 3 (nI (p + 1))) := fun c => bad2 (by
              rw [r11]
              refine rg_f (by omega) (by show (11 : Nat) ≠ 4; decide) (Or.inr ?_)
              rw [tk_yes (by show (11 : Nat) ≠ 0; decide) (by show (11 : Nat) ≠ 4; decide) (show j ≤ 9 by omega) hj, tf11 rfl]
              exact t11n j (fun z => by rw [c] at z; exact Bool.false_ne_true z.2))
            simp only [z112_110, z112_111, z112_112, z112_115, z112_116, z112_119, z112_121, z112_122, z112_123, z112_124, z112_125, z112_126, z112_129, z112_130, pv_catN, pv_cat1, pv_cat2, pv_cat3, pv_catL, Option.toList, List.nil_append, List.cons_append, List.append_nil, pv_rfS, pn_i, pn_r, pn_n, pn_o, true_and, and_true, Nat.le_refl, and_self, true_implies, false_implies, not_true_eq_false, not_false_eq_true, pv_b0, pv_b01, pv_bn0, pv_b1, Bool.false_eq_true, Bool.true_eq_false, Bool.not_false, Bool.not_true, pv_bT, pv_bF, eq_self, true_or, or_true, es2, G.o, G.r23, G.t116, nI_eq' (show i < 2 ^ 31 by omega) (show j < 2 ^ 31 by omega), e8, nI_add, vp_nI (show 8 * i + j < 64 by omega) (show 64 < 2 ^ 31 by decide), nI_clamp (show 8 * i + j < 2 ^ 31 by omega), q116, C.2.2.2.2 i j (by omega) (by omega)]
            refine ⟨fun c4 => no (by rw [key, decide_eq_true c4.symm]; rfl), fun c4 => ?_⟩
            cases hb : (aC s i).testBit j with
            | true => exact ⟨fun c5 => (by cases c5), fun _ => no (by rw [key, hb, Bool.not_true, Bool.and_false])⟩
            | false =>
              refine ⟨fun _ => ?_, fun c5 => absurd rfl c5⟩
              have hcit : aCit s i j = true := by rw [key, hb, decide_eq_false (fun z => c4 z.symm)]; rfl
              have ht2 : t11 (cS' s 11 i) j = some (4, aL s, aT s, aw s, av s, aa s, ak s, i, aF s, aB s, aM s, aR s, aW s, aV s, aA s, aK s, aG s, updN (aC s) i (aC s i ||| 2 ^ j)) := by
                unfold t11
                have : (aCan (cS' s 11 i) (ai (cS' s 11 i)) && (decide (j < aR (cS' s 11 i)) && aCit (cS' s 11 i) (ai (cS' s 11 i)) j)) = true := by
                  show (aCan s i && (decide (j < aR s) && aCit s i j)) = true
                  rw [hcan, hcit, decide_eq_true hjR]
                  rfl
                rw [if_pos this]
                rfl
              have r12 := r11.trans (rg_t hpN2 (by rw [tk_yes (by show (11 : Nat) ≠ 0; decide) (by show (11 : Nat) ≠ 4; decide) (show j ≤ 9 by omega) hj, tf11 rfl, ht2]))
              simp only [z112_131, z112_132, y112_132, z112_133, z112_136, z112_137, z112_138, z112_141, z112_142, z112_145, z112_147, z112_148, z112_149, z112_150, z112_151, z112_152, z112_153, z112_154, pv_catN, pv_cat1, pv_cat2, pv_cat3, pv_catL, Option.toList, List.nil_append, List.cons_append, List.append_nil, pv_rfS, pn_i, pn_r, pn_n, pn_o, true_and, and_true, Nat.le_refl, and_self, true_implies, false_implies, not_true_eq_false, not_false_eq_true, pv_b0, pv_b01, pv_bn0, pv_b1, Bool.false_eq_true, Bool.true_eq_false, Bool.not_false, Bool.not_true, pv_bT, pv_bF, eq_self, true_or, or_true, G.o, G.r23, G.t116, st_at, nI_1, e8, nI_add, vp_nI (show 8 * i + j < 64 by omega) (show 64 < 2 ^ 31 by decide), nI_clamp (show 8 * i + j < 2 ^ 31 by omega), pl]
              refine hP.2 _ (p + 2) _ ((FRm.rf.sk (by omega)).so (by omega)) (by rw [st_o (by decide), st_at]) (by omega) (by omega) (t11_ok A11 rfl ht2) rfl ⟨by rw [st_o (by decide), st_k (by decide)]; exact C.1, by rw [st_o (by decide), st_k (by decide)]; exact C.2.1, fun f hf => by rw [st_o (by decide), st_o (by decide), st_o (by decide), st_o (by decide)]; exact C.2.2.1 f hf, fun r hr => by rw [st_o (by decide), st_o (by decide)]; exact C.2.2.2.1 r hr, fun i' j' hi' hj' => ?_⟩ r12
              show _ = pv_b ((updN (aC s) i (aC s i ||| 2 ^ j) i').testBit j')
              by_cases zi : i' = i
              · subst zi
                rw [updN_at, Nat.testBit_or, Nat.testBit_two_pow]
                by_cases zj : j' = j
                · subst zj
                  rw [st_at, decide_eq_true rfl, Bool.or_true]
                  rfl
                · rw [st_k (by omega), st_o (by decide), decide_eq_false (fun z => zj z.symm), Bool.or_false]
                  exact C.2.2.2.2 i' j' hi' hj'
              · rw [updN_ne zi, st_k (by omega), st_o (by decide)]
                exact C.2.2.2.2 i' j' hi' hj'
theorem rg_fn {X : Nat → Nat} {N p : Nat} {s : RS} (hp : p < N) (h : tk s (X p) = none) : (rg X (N - p) p s).1 = some p := by
  obtain ⟨m, hm⟩ : ∃ m, N - p = m + 1 := ⟨N - p - 1, by omega⟩
  rw [hm, rg_n h]
theorem tk4 {s : RS} {c : Nat} (h : aS s = 4) : tk s c = t4 s c := by unfold tk; rw [if_neg (by omega), if_pos h]
theorem m113 {d : Nat} {P : PvP} {g : PvG} {h : PvH} {x : SX} {s : RS} (G : gM g) (M : cD h x) (O : okX x) (C : mR2 h s) (A : okA s) (h4 : aS s = 4) {p : Nat} (hp : p < xN x) (e3 : h 102 3 = nI p) (hP : RT P g h x (rg (xX x) (xN x - p) p s) p) : pv_run (d + 4) 113 [.ref 102] g h P := by
  have hN := O.N76
  have hR := A.R
  have hX := O.X8 p hp
  have hmx : mxN (aM s) (aF s) ≤ 99 := mxN_le (fun r hr => A.M (by omega) hr)
  have e82 : (nI (xX x p) = 82) = (xX x p = 82) := nI_eq' (b := 82) (by omega) (by decide)
  have e81 : (nI (xX x p) = 81) = (xX x p = 81) := nI_eq' (b := 81) (by omega) (by decide)
  have r8 : ((8 : Int32) ≤ nI (aR s)) = (8 ≤ aR s) := nI_le' (a := 8) (by decide) (by omega)
  have e0 : (nI (mxN (aM s) (aF s)) ≤ 0) = (mxN (aM s) (aF s) ≤ 0) := nI_le' (b := 0) (by omega) (by decide)
  have eH : aH s 1 = decide (1 ≤ mxN (aM s) (aF s)) := aH_mx (Nat.le_refl 1)
  have bad : tk s (xX x p) = none → P (some (.int 0)) g h := fun e => hP.1 h p FRm.rf (by omega) e3 (rg_fn hp e)
  have at47 : ¬ (xX x p = 82 ∧ aR s < 8 ∧ aH s 1 = true) → pv_E (d + 3) 113 P 47 [some (.ref 102), some (.int (nI (xX x p)))] [] 0 0 g h := by
    intro hno
    have ht4 : xX x p = 82 → tk s (xX x p) = none := fun z => by
      rw [tk4 h4]
      unfold t4
      rw [if_pos z, if_neg (fun y => hno ⟨z, of_decide_eq_true (Bool.and_eq_true_iff.mp y).1, (Bool.and_eq_true_iff.mp y).2⟩)]
    simp only [z113_47, z113_48, z113_50, z113_53, z113_75, z113_76, pv_catN, pv_cat1, pv_cat2, pv_cat3, pv_catL, Option.toList, List.nil_append, List.cons_append, List.append_nil, pv_rfS, pn_i, pn_r, pn_n, pn_o, true_and, and_true, Nat.le_refl, and_self, true_implies, false_implies, not_true_eq_false, not_false_eq_true, pv_b0, pv_b01, pv_bn0, pv_b1, Bool.false_eq_true, Bool.true_eq_false, Bool.not_false, Bool.not_true, pv_bT, pv_bF, eq_self, true_or, or_true, e81]
    refine ⟨fun c => bad ?_, fun c => ?_⟩
    · by_cases z : xX x p = 82
      · exact ht4 z
      · rw [tk4 h4]
        unfold t4
        rw [if_neg z, decide_eq_false c, Bool.false_and, if_neg Bool.false_ne_true]
    · have c := Classical.not_not.mp c
      rw [z113_54 (by simp [pv_cat, Value.category]) (by decide)]
      refine ⟨G.o, m111 G C A ?_⟩
      simp only [z113_57, z113_75, z113_76, pv_catN, pv_cat1, pv_cat2, pv_cat3, pv_catL, Option.toList, List.nil_append, List.cons_append, List.append_nil, pv_rfS, pn_i, pn_r, pn_n, pn_o, true_and, and_true, Nat.le_refl, and_self, true_implies, false_implies, not_true_eq_false, not_false_eq_true, pv_b0, pv_b01, pv_bn0, pv_b1, Bool.false_eq_true, Bool.true_eq_false, Bool.not_false, Bool.not_true, pv_bT, pv_bF, eq_self, true_or, or_true]
      refine br (fun c2 => bad ?_) (fun c2 => ?_)
      · rw [tk4 h4]
        unfold t4
        rw [if_neg (by omega), c2, Bool.and_false, if_neg Bool.false_ne_true]
      · have ht : t4 s (xX x p) = some (cS' s 10 (ai s)) := by
          unfold t4
          rw [if_neg (by omega), c2, decide_eq_true c]
          rfl
        have hR0 : 0 < aR s := by
          obtain ⟨r, hr, -⟩ := anyN_t.mp c2
          omega
        simp only [z113_60, z113_61, y113_61, z113_62, z113_65, z113_66, z113_67, z113_70, pv_catN, pv_cat1, pv_cat2, pv_cat3, pv_catL, Option.toList, List.nil_append, List.cons_append, List.append_nil, pv_rfS, pn_i, pn_r, pn_n, pn_o, true_and, and_true, Nat.le_refl, and_self, true_implies, false_implies, not_true_eq_false, not_false_eq_true, pv_b0, pv_b01, pv_bn0, pv_b1, Bool.false_eq_true, Bool.true_eq_false, Bool.not_false, Bool.not_true, pv_bT, pv_bF, eq_self, true_or, or_true, G.o, e3, nI_1]
        rw [z113_71 (by simp [pv_cat, Value.category]) (by decide)]
        refine ⟨G.o, m112 (s := cS' s 10 (ai s)) (p := p + 1) G M.p O C.p (t4_ok A h4 ht) rfl hR0 (by omega) st_at ?_⟩
        rw [← rg_t hp (by rw [tk4 h4, ht])]
        refine hP.im (FRm.rf.sk (by omega)) (by omega) (fun h' H => ?_) (fun h' H => ?_)
        · simp only [z113_74, pv_catN, pv_cat1, pv_cat2, pv_cat3, pv_catL, Option.toList, List.nil_append, List.cons_append, List.append_nil, pv_rfS, pn_i, pn_r, pn_n, pn_o, true_and, and_true, Nat.le_refl, and_self, true_implies, false_implies, not_true_eq_false, not_false_eq_true, pv_b0, pv_b01, pv_bn0, pv_b1, Bool.false_eq_true, Bool.true_eq_false, Bool.not_false, Bool.not_true, pv_bT, pv_bF, eq_self, true_or, or_true]; exact H
        · simp only [z113_74, pv_catN, pv_cat1, pv_cat2, pv_cat3, pv_catL, Option.toList, List.nil_append, List.cons_append, List.append_nil, pv_rfS, pn_i, pn_r, pn_n, pn_o, true_and, and_true, Nat.le_refl, and_self, true_implies, false_implies, not_true_eq_false, not_false_eq_true, pv_b0, pv_b01, pv_bn0, pv_b1, Bool.false_eq_true, Bool.true_eq_false, Bool.not_false, Bool.not_true, pv_bT, pv_bF, eq_self, true_or, or_true]; exact H
  simp only [e113, z113_0, z113_1, z113_4, z113_5, z113_8, z113_9, z113_10, z113_11, z113_13, z113_16, z113_17, z113_20, z113_22, z113_25, pv_catN, pv_cat1, pv_cat2, pv_cat3, pv_catL, Option.toList, List.nil_append, List.cons_append, List.append_nil, pv_rfS, pn_i, pn_r, pn_n, pn_o, true_and, and_true, Nat.le_refl, and_self, true_implies, false_implies, not_true_eq_false, not_false_eq_true, pv_b0, pv_b01, pv_bn0, pv_b1, Bool.false_eq_true, Bool.true_eq_false, Bool.not_false, Bool.not_true, pv_bT, pv_bF, eq_self, true_or, or_true, G.o, G.r1, G.t103, e3, vp_nI (show p < 76 by omega) (show 76 < 2 ^ 31 by decide), nI_clamp (show p < 2 ^ 31 by omega), M.Y p hp, e82, C.2.1, r8]
  refine ⟨fun c => at47 (fun z => c z.1), fun c => ⟨fun c2 => at47 (fun z => by omega), fun c2 => ?_⟩⟩
  have c := Classical.not_not.mp c
  rw [z113_26 (by simp [pv_cat, Value.category]) (by decide)]
  refine ⟨G.o, m107 G C A (by omega) ?_⟩
  simp only [z113_29, pv_catN, pv_cat1, pv_cat2, pv_cat3, pv_catL, Option.toList, List.nil_append, List.cons_append, List.append_nil, pv_rfS, pn_i, pn_r, pn_n, pn_o, true_and, and_true, Nat.le_refl, and_self, true_implies, false_implies, not_true_eq_false, not_false_eq_true, pv_b0, pv_b01, pv_bn0, pv_b1, Bool.false_eq_true, Bool.true_eq_false, Bool.not_false, Bool.not_true, pv_bT, pv_bF, eq_self, true_or, or_true, e0]
  refine ⟨fun c3 => at47 (fun z => ?_), fun c3 => ?_⟩
  · have := z.2.2
    rw [eH] at this
    have := of_decide_eq_true this
    omega
  · have ht : t4 s (xX x p) = some (wS s 5 (aw s) (av s) (aa s) (ak s)) := by
      unfold t4
      rw [if_pos c, eH, decide_eq_true (show aR s < 8 by omega), decide_eq_true (show 1 ≤ mxN (aM s) (aF s) by omega)]
      rfl
    simp only [z113_32, z113_33, y113_33, z113_34, z113_37, z113_38, z113_39, z113_42, pv_catN, pv_cat1, pv_cat2, pv_cat3, pv_catL, Option.toList, List.nil_append, List.cons_append, List.append_nil, pv_rfS, pn_i, pn_r, pn_n, pn_o, true_and, and_true, Nat.le_refl, and_self, true_implies, false_implies, not_true_eq_false, not_false_eq_true, pv_b0, pv_b01, pv_bn0, pv_b1, Bool.false_eq_true, Bool.true_eq_false, Bool.not_false, Bool.not_true, pv_bT, pv_bF, eq_self, true_or, or_true, G.o, e3, nI_1]
    rw [z113_43 (by simp [pv_cat, Value.category]) (by decide)]
    refine ⟨G.o, m109 (s := wS s 5 (aw s) (av s) (aa s) (ak s)) (p := p + 1) G M.p O C.p (t4_ok A h4 ht) rfl (by omega) st_at ?_⟩
    rw [← rg_t hp (by rw [tk4 h4, ht])]
    refine hP.im (FRm.rf.sk (by omega)) (by omega) (fun h' H => ?_) (fun h' H => ?_)
    · simp only [z113_46, pv_catN, pv_cat1, pv_cat2, pv_cat3, pv_catL, Option.toList, List.nil_append, List.cons_append, List.append_nil, pv_rfS, pn_i, pn_r, pn_n, pn_o, true_and, and_true, Nat.le_refl, and_self, true_implies, false_implies, not_true_eq_false, not_false_eq_true, pv_b0, pv_b01, pv_bn0, pv_b1, Bool.false_eq_true, Bool.true_eq_false, Bool.not_false, Bool.not_true, pv_bT, pv_bF, eq_self, true_or, or_true]; exact H
    · simp only [z113_46, pv_catN, pv_cat1, pv_cat2, pv_cat3, pv_catL, Option.toList, List.nil_append, List.cons_append, List.append_nil, pv_rfS, pn_i, pn_r, pn_n, pn_o, true_and, and_true, Nat.le_refl, and_self, true_implies, false_implies, not_true_eq_false, not_false_eq_true, pv_b0, pv_b01, pv_bn0, pv_b1, Bool.false_eq_true, Bool.true_eq_false, Bool.not_false, Bool.not_true, pv_bT, pv_bF, eq_self, true_or, or_true]; exact H
