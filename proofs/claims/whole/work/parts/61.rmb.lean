/-! THE READER of the model: a record -/
def RT (P : PvP) (g : PvG) (h : PvH) (x : SX) (res : Option Nat × RS) (p : Nat) : Prop := (∀ h' p', FRm h h' → p' ≤ xN x → h' 102 3 = nI p' → res.1 = some p' → P (some (.int 0)) g h') ∧ (∀ h' p' s', FRm h h' → h' 102 3 = nI p' → p < p' → p' ≤ xN x → okA s' → aS s' = 4 → mR2 h' s' → res = rg (xX x) (xN x - p') p' s' → P (some (.int 1)) g h')
theorem RT.im {P Q : PvP} {g : PvG} {h h1 : PvH} {x : SX} {res : Option Nat × RS} {p q : Nat} (T : RT P g h x res p) (F : FRm h h1) (hq : p ≤ q) (H0 : ∀ h', P (some (.int 0)) g h' → Q (some (.int 0)) g h') (H1 : ∀ h', P (some (.int 1)) g h' → Q (some (.int 1)) g h') : RT Q g h1 x res q := ⟨fun h' p' f b c e => H0 h' (T.1 h' p' (F.tr f) b c e), fun h' p' s' f a b c e i j k => H1 h' (T.2 h' p' s' (F.tr f) a (by omega) c e i j k)⟩
def wS (s : RS) (S w v a k : Nat) : RS := (S, aL s, aT s, w, v, a, k, ai s, aF s, aB s, aM s, aR s, aW s, aV s, aA s, aK s, aG s, aC s)
theorem tk_f {s : RS} {c : Nat} (h0 : aS s ≠ 0) (h4 : aS s ≠ 4) : tk s c = if 48 ≤ c ∧ c ≤ 57 then tf s (c - 48) else none := by
  unfold tk
  rw [if_neg h0, if_neg h4]
theorem tf5 {s : RS} {f : Nat} (h : aS s = 5) : tf s f = t5 s f := by unfold tf; rw [if_neg (by omega), if_neg (by omega), if_neg (by omega), if_pos h]
theorem tf6 {s : RS} {f : Nat} (h : aS s = 6) : tf s f = t6 s f := by unfold tf; rw [if_neg (by omega), if_neg (by omega), if_neg (by omega), if_neg (by omega), if_pos h]
theorem tf7 {s : RS} {f : Nat} (h : aS s = 7) : tf s f = t7 s f := by unfold tf; rw [if_neg (by omega), if_neg (by omega), if_neg (by omega), if_neg (by omega), if_neg (by omega), if_pos h]
theorem tf8 {s : RS} {f : Nat} (h : aS s = 8) : tf s f = t8 s f := by unfold tf; rw [if_neg (by omega), if_neg (by omega), if_neg (by omega), if_neg (by omega), if_neg (by omega), if_neg (by omega), if_pos h]
theorem tf9 {s : RS} {f : Nat} (h : aS s = 9) : tf s f = t9 s f := by unfold tf; rw [if_neg (by omega), if_neg (by omega), if_neg (by omega), if_neg (by omega), if_neg (by omega), if_neg (by omega), if_neg (by omega), if_pos h]
theorem tk_no {s : RS} {c lo hi : Nat} (h0 : aS s ≠ 0) (h4 : aS s ≠ 4) (h : ∀ f, f ≤ 9 → ¬ (lo ≤ f ∧ f ≤ hi) → tf s f = none) (hc : ¬ (48 + lo ≤ c ∧ c ≤ 48 + hi)) : tk s c = none := by
  rw [tk_f h0 h4]
  split
  · exact h _ (by omega) (by omega)
  · rfl
theorem tk_yes {s : RS} {c f : Nat} (h0 : aS s ≠ 0) (h4 : aS s ≠ 4) (hf : f ≤ 9) (hc : c = 48 + f) : tk s c = tf s f := by
  rw [tk_f h0 h4, if_pos (by omega)]
  congr 1
  omega
theorem b120 {d : Nat} {P : PvP} {g : PvG} {h : PvH} {m1 w2 w3 i5 j6 : Int32} (hP : P (some (.int 0)) g h) : pv_E d 109 P 120 [some (.ref 102), some (.int m1), some (.int w2), some (.int w3), some (.int (-9)), some (.int i5), some (.int j6), none, none] [] 0 0 g h := by
  simp only [z109_120, z109_122, z109_124, z109_127, z109_129, z109_147, z109_149, z109_151, z109_153, z109_156, z109_158, z109_170, z109_172, z109_174, z109_176, z109_179, z109_180, pv_catN, pv_cat1, pv_cat2, pv_cat3, pv_catL, Option.toList, List.nil_append, List.cons_append, List.append_nil, pv_rfS, pn_i, pn_r, pn_n, pn_o, true_and, and_true, Nat.le_refl, and_self, true_implies, false_implies, not_true_eq_false, not_false_eq_true, pv_b0, pv_b01, pv_bn0, pv_b1, Bool.false_eq_true, Bool.true_eq_false, Bool.not_false, Bool.not_true, pv_bT, pv_bF, eq_self, true_or, or_true]
  exact hP
theorem b62 {d : Nat} {P : PvP} {g : PvG} {h : PvH} {s : RS} (G : gM g) (C : mR2 h s) (A : okA s) (h4 : 4 ≤ aS s) {m1 w2 w3 w4 : Int32} (H : ∀ i5 j6 : Int32, (0 < aR s → i5 = nI (aG s (aR s - 1))) → (aR s = 0 → i5 = -9) → (∀ w, w2 = nI w → w ≤ 9 → j6 = pv_b (decide (0 < aR s) && decide (w ≤ aM s (aG s (aR s - 1))))) → pv_E d 109 P 120 [some (.ref 102), some (.int m1), some (.int w2), some (.int w3), some (.int w4), some (.int i5), some (.int j6), none, none] [] 0 0 g h) : pv_E d 109 P 62 [some (.ref 102), some (.int m1), some (.int w2), some (.int w3), some (.int w4), none, none, none, none] [] 0 0 g h := by
  have hR := A.R
  have hF := A.F (by omega)
  have hL := A.L h4
  have e0 : (nI (aR s) ≤ 0) = (aR s ≤ 0) := nI_le' (b := 0) (by omega) (by decide)
  by_cases cR : 0 < aR s
  · have e5 : (5 : Int32) * nI (aR s) = nI (5 * aR s) := pk_mul 5 _
    have es : nI (5 * aR s) - 1 = nI (5 * (aR s - 1) + 4) := by
      rw [show nI (5 * aR s) - 1 = nI (5 * aR s - 1) from pk_sub (b := 1) (by omega)]
      congr 1
      omega
    have hg := (A.b.2.1 (aR s - 1) (by omega)).2.2.2.2.2.1
    have eg := (C.2.2.2.1 (aR s - 1) (by omega)).2.2.2.2
    have hM := A.M h4 hg
    simp only [z109_62, z109_63, z109_66, z109_69, z109_70, z109_73, z109_74, z109_75, z109_78, z109_79, z109_80, z109_81, z109_82, z109_87, z109_89, z109_91, z109_93, z109_96, z109_97, z109_99, z109_102, z109_103, z109_106, z109_108, z109_109, z109_110, z109_113, z109_114, z109_117, z109_118, pv_catN, pv_cat1, pv_cat2, pv_cat3, pv_catL, Option.toList, List.nil_append, List.cons_append, List.append_nil, pv_rfS, pn_i, pn_r, pn_n, pn_o, true_and, and_true, Nat.le_refl, and_self, true_implies, false_implies, not_true_eq_false, not_false_eq_true, pv_b0, pv_b01, pv_bn0, pv_b1, Bool.false_eq_true, Bool.true_eq_false, Bool.not_false, Bool.not_true, pv_bT, pv_bF, eq_self, true_or, or_true, G.o, C.2.1, e0, show (aR s ≤ 0) = False from eq_false (by omega), G.r22, G.t115, e5, es, vp_nI (show 5 * (aR s - 1) + 4 < 40 by omega) (show 40 < 2 ^ 31 by decide), nI_clamp (show 5 * (aR s - 1) + 4 < 2 ^ 31 by omega), eg, n9 (show aG s (aR s - 1) < 2 ^ 30 by omega), G.r20, G.t114, vp_nI (show aG s (aR s - 1) < 5 by omega) (show 5 < 2 ^ 31 by decide), nI_clamp (show aG s (aR s - 1) < 2 ^ 31 by omega), (C.2.2.1 (aG s (aR s - 1)) (by omega)).1]
    refine ⟨fun c => H _ _ (fun _ => rfl) (fun z => absurd z (by omega)) (fun w hw hw9 => ?_), fun c => ⟨fun c2 => H _ _ (fun _ => rfl) (fun z => absurd z (by omega)) (fun w hw hw9 => ?_), fun c2 => H _ _ (fun _ => rfl) (fun z => absurd z (by omega)) (fun w hw hw9 => ?_)⟩⟩
    · rw [hw] at c
      exact absurd c (of_eq_false (n9 (by omega)))
    · rw [hw, nI_lt' (by omega) (by omega)] at c2
      rw [decide_eq_false (show ¬ w ≤ aM s (aG s (aR s - 1)) by omega), Bool.and_false]
      rfl
    · rw [hw, nI_lt' (by omega) (by omega)] at c2
      rw [decide_eq_true cR, decide_eq_true (show w ≤ aM s (aG s (aR s - 1)) by omega)]
      rfl
  · simp only [z109_62, z109_63, z109_66, z109_85, z109_87, z109_89, z109_91, z109_93, z109_117, z109_118, pv_catN, pv_cat1, pv_cat2, pv_cat3, pv_catL, Option.toList, List.nil_append, List.cons_append, List.append_nil, pv_rfS, pn_i, pn_r, pn_n, pn_o, true_and, and_true, Nat.le_refl, and_self, true_implies, false_implies, not_true_eq_false, not_false_eq_true, pv_b0, pv_b01, pv_bn0, pv_b1, Bool.false_eq_true, Bool.true_eq_false, Bool.not_false, Bool.not_true, pv_bT, pv_bF, eq_self, true_or, or_true, G.o, C.2.1, e0, show (aR s ≤ 0) = True from eq_true (by omega)]
    exact H _ _ (fun z => absurd z cR) (fun _ => rfl) (fun w hw hw9 => by rw [decide_eq_false cR]; rfl)
theorem aH_mx {s : RS} {f : Nat} (hf : 1 ≤ f) : aH s f = decide (f ≤ mxN (aM s) (aF s)) := mxN_any hf
set_option maxHeartbeats 2000000 in
theorem m109 {d : Nat} {P : PvP} {g : PvG} {h : PvH} {x : SX} {s : RS} (G : gM g) (M : cD h x) (O : okX x) (C : mR2 h s) (A : okA s) (h5 : aS s = 5) {p : Nat} (hp : p ≤ xN x) (e3 : h 102 3 = nI p) (hP : RT P g h x (rg (xX x) (xN x - p) p s) p) : pv_run (d + 3) 109 [.ref 102] g h P := by
  have hN := O.N76
  have hR8 : aR s < 8 := A.2.2.2.2.2.2.2.2.2.2.2.2.1 (by omega)
  have hF := A.F (by omega)
  have hL := A.L (by omega)
  have hmx : mxN (aM s) (aF s) ≤ 99 := mxN_le (fun r hr => A.M (by omega) hr)
  -- a place further on
  have pl : ∀ q : Nat, ∀ v, pv_st (pv_st h 102 3 (nI q)) 102 3 v = pv_st h 102 3 v := fun q v => by
    funext o k
    by_cases z : o = 102 ∧ k = 3
    · obtain ⟨rfl, rfl⟩ := z
      rw [st_at, st_at]
    · simp [pv_st, z]
  have fin : ∀ (w v a k f : Nat), 1 ≤ w → w ≤ 9 → v ≤ 9 → a ≤ 9 → k ≤ 3 → p + 5 ≤ xN x → t9 (wS s 9 w v a k) f = some (4, aL s, aT s, w, v, a, k, ai s, aF s, aB s, updN (aM s) f (aM s f - w), aR s + 1, updN (aW s) (aR s) w, updN (aV s) (aR s) v, updN (aA s) (aR s) a, updN (aK s) (aR s) k, updN (aG s) (aR s) f, aC s) → okA (wS s 9 w v a k) → f < aF s → w ≤ aM s f → rg (xX x) (xN x - p) p s = rg (xX x) (xN x - (p + 5)) (p + 5) (4, aL s, aT s, w, v, a, k, ai s, aF s, aB s, updN (aM s) f (aM s f - w), aR s + 1, updN (aW s) (aR s) w, updN (aV s) (aR s) v, updN (aA s) (aR s) a, updN (aK s) (aR s) k, updN (aG s) (aR s) f, aC s) → ∀ (m1 i5 j6 : Int32), pv_E (d + 2) 109 P 170 [some (.ref 102), some (.int m1), some (.int (nI w)), some (.int (nI v)), some (.int (nI a)), some (.int i5), some (.int j6), some (.int (nI k)), none] [.int (nI f)] 0 0 g (pv_st h 102 3 (nI (p + 5))) := by
    intro w v a k f hw1 hw hv ha hk hp5 ht A9 hf hwM hres m1 i5 j6
    have e5 : (5 : Int32) * nI (aR s) = nI (5 * aR s) := pk_mul 5 _
    have eM : h 114 f = nI (aM s f) := (C.2.2.1 f (by omega)).1
    have es : nI (aM s f) - nI w = nI (aM s f - w) := pk_sub hwM
    have q1 : ∀ (h : PvH) (k : Nat) (v : Int32), pv_st h 115 k v 102 = h 102 := fun h k v => st_o (by decide)
    have q2 : ∀ (h : PvH) (k : Nat) (v : Int32), pv_st h 114 k v 102 = h 102 := fun h k v => st_o (by decide)
    have q3 : ∀ (h : PvH) (k : Nat) (v : Int32), pv_st h 115 k v 114 = h 114 := fun h k v => st_o (by decide)
    have q4 : ∀ (h : PvH) (k : Nat) (v : Int32), pv_st h 102 k v 114 = h 114 := fun h k v => st_o (by decide)
    have q5 : ∀ (h : PvH) (v : Int32), pv_st h 102 3 v 102 21 = h 102 21 := fun h v => st_k (by decide)
    simp only [z109_170, z109_172, z109_174, z109_176, z109_181, z109_182, z109_185, z109_186, z109_187, z109_190, z109_191, z109_192, z109_193, z109_194, z109_197, z109_198, z109_199, z109_202, z109_203, z109_204, z109_205, z109_206, z109_207, z109_208, z109_211, z109_212, z109_213, z109_216, z109_217, z109_218, z109_219, z109_221, z109_222, z109_223, z109_226, z109_227, z109_228, z109_231, z109_232, z109_233, z109_234, z109_236, z109_237, z109_238, z109_241, z109_242, z109_243, z109_246, z109_247, z109_248, z109_249, z109_251, z109_252, z109_253, z109_256, z109_258, z109_259, z109_260, z109_261, z109_262, z109_263, z109_264, y109_264, z109_265, z109_268, z109_269, z109_270, z109_273, z109_274, pv_catN, pv_cat1, pv_cat2, pv_cat3, pv_catL, Option.toList, List.nil_append, List.cons_append, List.append_nil, pv_rfS, pn_i, pn_r, pn_n, pn_o, true_and, and_true, Nat.le_refl, and_self, true_implies, false_implies, not_true_eq_false, not_false_eq_true, pv_b0, pv_b01, pv_bn0, pv_b1, Bool.false_eq_true, Bool.true_eq_false, Bool.not_false, Bool.not_true, pv_bT, pv_bF, eq_self, true_or, or_true, n9 (show f < 2 ^ 30 by omega), G.o, G.r22, G.t115, G.r20, G.t114, q1, q2, q3, q4, q5, C.2.1, e5, show (4 : Int32) = nI 4 from rfl, show (3 : Int32) = nI 3 from rfl, show (2 : Int32) = nI 2 from rfl, nI_add, nI_1, vp_nI (show 5 * aR s < 40 by omega) (show 40 < 2 ^ 31 by decide), vp_nI (show 5 * aR s + 1 < 40 by omega) (show 40 < 2 ^ 31 by decide), vp_nI (show 5 * aR s + 2 < 40 by omega) (show 40 < 2 ^ 31 by decide), vp_nI (show 5 * aR s + 3 < 40 by omega) (show 40 < 2 ^ 31 by decide), vp_nI (show 5 * aR s + 4 < 40 by omega) (show 40 < 2 ^ 31 by decide), nI_clamp (show 5 * aR s < 2 ^ 31 by omega), nI_clamp (show 5 * aR s + 1 < 2 ^ 31 by omega), nI_clamp (show 5 * aR s + 2 < 2 ^ 31 by omega), nI_clamp (show 5 * aR s + 3 < 2 ^ 31 by omega), nI_clamp (show 5 * aR s + 4 < 2 ^ 31 by omega), vp_nI (show f < 5 by omega) (show 5 < 2 ^ 31 by decide), nI_clamp (show f < 2 ^ 31 by omega), eM, es]
    refine hP.2 _ (p + 5) _ ((((((((FRm.rf.sk (by omega)).so (by omega)).so (by omega)).so (by omega)).so (by omega)).so (by omega)).so (by omega)).sk (by omega)) ?_ (by omega) hp5 (t9_ok A9 rfl ht) rfl ⟨?_, ?_, fun f' hf' => ⟨?_, ?_⟩, fun r hr => ?_, fun i j hi hj => ?_⟩ hres
    · rw [st_k (by decide), q2, q1, q1, q1, q1, q1, st_at]
    · rw [st_k (by decide), q2, q1, q1, q1, q1, q1, st_k (by decide)]; exact C.1
    · rw [st_at]; rfl
    · rw [st_o (by decide)]
      refine st_up rfl (fun z => ?_)
      rw [q3, q3, q3, q3, q3, q4]
      exact (C.2.2.1 f' hf').1
    · rw [st_o (by decide), st_o (by decide), st_o (by decide), st_o (by decide), st_o (by decide), st_o (by decide), st_o (by decide), st_o (by decide)]
      exact (C.2.2.1 f' hf').2
    · have hr : r < aR s + 1 := hr
      rw [st_o (by decide), st_o (by decide)]
      by_cases z : r = aR s
      · subst z
        refine ⟨?_, ?_, ?_, ?_, ?_⟩
        · rw [st_k (by omega), st_k (by omega), st_k (by omega), st_k (by omega), st_at]
          exact congrArg nI updN_at.symm
        · rw [st_k (by omega), st_k (by omega), st_k (by omega), st_at]
          exact congrArg nI updN_at.symm
        · rw [st_k (by omega), st_k (by omega), st_at]
          exact congrArg nI updN_at.symm
        · rw [st_k (by omega), st_at]
          exact congrArg nI updN_at.symm
        · rw [st_at]
          exact congrArg nI updN_at.symm
      · obtain ⟨c1, c2, c3, c4, c5⟩ := C.2.2.2.1 r (by omega)
        refine ⟨?_, ?_, ?_, ?_, ?_⟩
        · rw [st_k (by omega), st_k (by omega), st_k (by omega), st_k (by omega), st_k (by omega), st_o (by decide), c1]
          exact congrArg nI (updN_ne z).symm
        · rw [st_k (by omega), st_k (by omega), st_k (by omega), st_k (by omega), st_k (by omega), st_o (by decide), c2]
          exact congrArg nI (updN_ne z).symm
        · rw [st_k (by omega), st_k (by omega), st_k (by omega), st_k (by omega), st_k (by omega), st_o (by decide), c3]
          exact congrArg nI (updN_ne z).symm
        · rw [st_k (by omega), st_k (by omega), st_k (by omega), st_k (by omega), st_k (by omega), st_o (by decide), c4]
          exact congrArg nI (updN_ne z).symm
        · rw [st_k (by omega), st_k (by omega), st_k (by omega), st_k (by omega), st_k (by omega), st_o (by decide), c5]
          exact congrArg nI (updN_ne z).symm
    · rw [st_o (by decide), st_o (by decide), st_o (by decide), st_o (by decide), st_o (by decide), st_o (by decide), st_o (by decide), st_o (by decide)]
      exact C.2.2.2.2 i j hi hj
  -- what fails at a place
  have bad : ∀ (q : Nat) (m1 w2 w3 : Int32), q ≤ xN x → (rg (xX x) (xN x - p) p s).1 = some q → pv_E (d + 2) 109 P 62 [some (.ref 102), some (.int m1), some (.int w2), some (.int w3), some (.int (-9)), none, none, none, none] [] 0 0 g (pv_st h 102 3 (nI q)) := fun q m1 w2 w3 hq hres =>
    b62 G C.p A (by omega) (fun i5 j6 _ _ _ => b120 (hP.1 _ q (FRm.rf.sk (by omega)) hq st_at hres))
  have h0 : pv_st h 102 3 (nI p) = h := by
    funext o k
    by_cases z : o = 102 ∧ k = 3
    · obtain ⟨rfl, rfl⟩ := z
      rw [st_at, e3]
    · simp [pv_st, z]
  have at19 : ∀ hi, hi ≤ 9 → (∀ f, f ≤ 9 → 1 ≤ f → (f ≤ hi ↔ f ≤ mxN (aM s) (aF s))) → pv_E (d + 2) 109 P 19 [some (.ref 102), some (.int (nI (mxN (aM s) (aF s)))), none, none, none, none, none, none, none] [.int (nI hi), .int (nI 1), .ref 102] 0 0 g h := by
    intro hi hi9 hhi
    rw [z109_19 (by simp [pv_cat, Value.category]) (by decide)]
    refine ⟨G.o, m106 (lo := 1) (hi := hi) G M O hp e3 (by omega) hi9 (fun hb => ?_) (fun w hpN hX hw1 hwh => ?_)⟩
    · simp only [z109_22, z109_23, z109_24, z109_26, z109_29, z109_31, z109_41, z109_42, z109_43, z109_45, z109_48, z109_50, z109_60, pv_catN, pv_cat1, pv_cat2, pv_cat3, pv_catL, Option.toList, List.nil_append, List.cons_append, List.append_nil, pv_rfS, pn_i, pn_r, pn_n, pn_o, true_and, and_true, Nat.le_refl, and_self, true_implies, false_implies, not_true_eq_false, not_false_eq_true, pv_b0, pv_b01, pv_bn0, pv_b1, Bool.false_eq_true, Bool.true_eq_false, Bool.not_false, Bool.not_true, pv_bT, pv_bF, eq_self, true_or, or_true]
      have := bad p (nI (mxN (aM s) (aF s))) (-9) (-9) hp (rg_f hp (by omega) (hb.imp id (fun z => tk_no (by omega) (by omega) (fun f hf9 hf => ?_) z)))
      · rw [h0] at this
        exact this
      · rw [tf5 h5]
        unfold t5
        by_cases c : 1 ≤ f
        · rw [aH_mx c, decide_eq_false (show ¬ f ≤ mxN (aM s) (aF s) from fun y => hf ⟨c, (hhi f hf9 c).mpr y⟩), Bool.and_false, if_neg Bool.false_ne_true]
        · rw [decide_eq_false c, Bool.false_and, if_neg Bool.false_ne_true]
    · have hw9 : w ≤ 9 := by omega
      have ht5 : t5 s w = some (wS s 6 w (av s) (aa s) (ak s)) := by
        unfold t5
        rw [aH_mx hw1, decide_eq_true hw1, decide_eq_true ((hhi w hw9 hw1).mp hwh)]
        rfl
      have A6 := t5_ok A h5 hw9 ht5
      have r6 : rg (xX x) (xN x - p) p s = rg (xX x) (xN x - (p + 1)) (p + 1) (wS s 6 w (av s) (aa s) (ak s)) := rg_t hpN (by rw [tk_yes (by omega) (by omega) hw9 hX, tf5 h5, ht5])
      simp only [z109_22, z109_23, z109_24, z109_26, z109_34, z109_35, z109_36, pv_catN, pv_cat1, pv_cat2, pv_cat3, pv_catL, Option.toList, List.nil_append, List.cons_append, List.append_nil, pv_rfS, pn_i, pn_r, pn_n, pn_o, true_and, and_true, Nat.le_refl, and_self, true_implies, false_implies, not_true_eq_false, not_false_eq_true, pv_b0, pv_b01, pv_bn0, pv_b1, Bool.false_eq_true, Bool.true_eq_false, Bool.not_false, Bool.not_true, pv_bT, pv_bF, eq_self, true_or, or_true, n9 (show w < 2 ^ 30 by omega)]
      rw [z109_38 (by simp [pv_cat, Value.category]) (by decide)]
      refine ⟨G.o, m106 (lo := 0) (hi := 9) (p := p + 1) G M.p O (by omega) st_at (by omega) (by omega) (fun hb => ?_) (fun v hpN2 hX2 _ hv9 => ?_)⟩
      · simp only [z109_41, z109_42, z109_43, z109_45, z109_48, z109_50, z109_60, pv_catN, pv_cat1, pv_cat2, pv_cat3, pv_catL, Option.toList, List.nil_append, List.cons_append, List.append_nil, pv_rfS, pn_i, pn_r, pn_n, pn_o, true_and, and_true, Nat.le_refl, and_self, true_implies, false_implies, not_true_eq_false, not_false_eq_true, pv_b0, pv_b01, pv_bn0, pv_b1, Bool.false_eq_true, Bool.true_eq_false, Bool.not_false, Bool.not_true, pv_bT, pv_bF, eq_self, true_or, or_true]
        refine bad (p + 1) _ _ _ (by omega) ?_
        rw [r6]
        exact rg_f (by omega) (by show (6 : Nat) ≠ 4; decide) (hb.imp id (fun z => tk_no (by show (6 : Nat) ≠ 0; decide) (by show (6 : Nat) ≠ 4; decide) (fun f hf9 hf => absurd ⟨Nat.zero_le f, hf9⟩ hf) z))
      · rw [pl]
        have r7 : rg (xX x) (xN x - p) p s = rg (xX x) (xN x - (p + 2)) (p + 2) (wS s 7 w v (aa s) (ak s)) := by
          rw [r6]
          exact rg_t hpN2 (by rw [tk_yes (by show (6 : Nat) ≠ 0; decide) (by show (6 : Nat) ≠ 4; decide) hv9 hX2, tf6 rfl]; rfl)
        have A7 : okA (wS s 7 w v (aa s) (ak s)) := t6_ok A6 rfl hv9 rfl
        simp only [z109_41, z109_42, z109_43, z109_45, z109_53, z109_54, z109_55, pv_catN, pv_cat1, pv_cat2, pv_cat3, pv_catL, Option.toList, List.nil_append, List.cons_append, List.append_nil, pv_rfS, pn_i, pn_r, pn_n, pn_o, true_and, and_true, Nat.le_refl, and_self, true_implies, false_implies, not_true_eq_false, not_false_eq_true, pv_b0, pv_b01, pv_bn0, pv_b1, Bool.false_eq_true, Bool.true_eq_false, Bool.not_false, Bool.not_true, pv_bT, pv_bF, eq_self, true_or, or_true, n9 (show v < 2 ^ 30 by omega)]
        rw [z109_57 (by simp [pv_cat, Value.category]) (by decide)]
        refine ⟨G.o, m106 (lo := 0) (hi := 9) (p := p + 2) G M.p O (by omega) st_at (by omega) (by omega) (fun hb => ?_) (fun a hpN3 hX3 _ ha9 => ?_)⟩
        · simp only [z109_60, pv_catN, pv_cat1, pv_cat2, pv_cat3, pv_catL, Option.toList, List.nil_append, List.cons_append, List.append_nil, pv_rfS, pn_i, pn_r, pn_n, pn_o, true_and, and_true, Nat.le_refl, and_self, true_implies, false_implies, not_true_eq_false, not_false_eq_true, pv_b0, pv_b01, pv_bn0, pv_b1, Bool.false_eq_true, Bool.true_eq_false, Bool.not_false, Bool.not_true, pv_bT, pv_bF, eq_self, true_or, or_true]
          refine bad (p + 2) _ _ _ (by omega) ?_
          rw [r7]
          exact rg_f (by omega) (by show (7 : Nat) ≠ 4; decide) (hb.imp id (fun z => tk_no (by show (7 : Nat) ≠ 0; decide) (by show (7 : Nat) ≠ 4; decide) (fun f hf9 hf => absurd ⟨Nat.zero_le f, hf9⟩ hf) z))
        · rw [pl]
          have r8 : rg (xX x) (xN x - p) p s = rg (xX x) (xN x - (p + 3)) (p + 3) (wS s 8 w v a (ak s)) := by
            rw [r7]
            exact rg_t hpN3 (by rw [tk_yes (by show (7 : Nat) ≠ 0; decide) (by show (7 : Nat) ≠ 4; decide) ha9 hX3, tf7 rfl]; rfl)
          have A8 : okA (wS s 8 w v a (ak s)) := t7_ok A7 rfl ha9 rfl
          simp only [z109_60, pv_catN, pv_cat1, pv_cat2, pv_cat3, pv_catL, Option.toList, List.nil_append, List.cons_append, List.append_nil, pv_rfS, pn_i, pn_r, pn_n, pn_o, true_and, and_true, Nat.le_refl, and_self, true_implies, false_implies, not_true_eq_false, not_false_eq_true, pv_b0, pv_b01, pv_bn0, pv_b1, Bool.false_eq_true, Bool.true_eq_false, Bool.not_false, Bool.not_true, pv_bT, pv_bF, eq_self, true_or, or_true]
          refine b62 G C.p A (by omega) (fun i5 j6 hi1 hi2 hj => ?_)
          have hj := hj w rfl hw9
          simp only [z109_120, z109_122, z109_124, z109_132, z109_133, z109_134, z109_136, z109_139, z109_140, z109_143, pv_catN, pv_cat1, pv_cat2, pv_cat3, pv_catL, Option.toList, List.nil_append, List.cons_append, List.append_nil, pv_rfS, pn_i, pn_r, pn_n, pn_o, true_and, and_true, Nat.le_refl, and_self, true_implies, false_implies, not_true_eq_false, not_false_eq_true, pv_b0, pv_b01, pv_bn0, pv_b1, Bool.false_eq_true, Bool.true_eq_false, Bool.not_false, Bool.not_true, pv_bT, pv_bF, eq_self, true_or, or_true, n9 (show a < 2 ^ 30 by omega), hj]
          have cond : ∀ f, f ≤ 9 → ((decide (f < 3) || (decide (f = 3) && (decide (0 < aR (wS s 8 w v a (ak s))) && aBe (wS s 8 w v a (ak s)) (aG (wS s 8 w v a (ak s)) (aR (wS s 8 w v a (ak s)) - 1))))) = true ↔ f ≤ (if (decide (0 < aR s) && decide (w ≤ aM s (aG s (aR s - 1)))) = true then 3 else 2)) := by
            intro f hf
            have eb : (decide (0 < aR (wS s 8 w v a (ak s))) && aBe (wS s 8 w v a (ak s)) (aG (wS s 8 w v a (ak s)) (aR (wS s 8 w v a (ak s)) - 1))) = (decide (0 < aR s) && decide (w ≤ aM s (aG s (aR s - 1)))) := by
              show (decide (0 < aR s) && (decide (aG s (aR s - 1) < aF s) && decide (w ≤ aM s (aG s (aR s - 1))))) = _
              by_cases cR : 0 < aR s
              · rw [decide_eq_true ((A.b.2.1 (aR s - 1) (by omega)).2.2.2.2.2.1), Bool.true_and]
              · rw [decide_eq_false cR]; rfl
            rw [eb]
            cases (decide (0 < aR s) && decide (w ≤ aM s (aG s (aR s - 1)))) with
            | true =>
              rw [if_pos rfl, Bool.and_true, ← Bool.decide_or, decide_eq_true_iff]
              omega
            | false =>
              rw [if_neg Bool.false_ne_true, Bool.and_false, Bool.or_false, decide_eq_true_iff]
              omega
          have at144 : ∀ hi, hi = (if (decide (0 < aR s) && decide (w ≤ aM s (aG s (aR s - 1)))) = true then 3 else 2) → pv_E (d + 2) 109 P 144 [some (.ref 102), some (.int (nI (mxN (aM s) (aF s)))), some (.int (nI w)), some (.int (nI v)), some (.int (nI a)), some (.int i5), some (.int (pv_b (decide (0 < aR s) && decide (w ≤ aM s (aG s (aR s - 1)))))), none, none] [.int (nI hi), .int (nI 0), .ref 102] 0 0 g (pv_st h 102 3 (nI (p + 3))) := by
            intro hi hhi4
            rw [← hhi4] at cond
            have hi3 : hi ≤ 3 := by rw [hhi4]; split <;> omega
            rw [z109_144 (by simp [pv_cat, Value.category]) (by decide)]
            refine ⟨G.o, m106 (lo := 0) (hi := hi) (p := p + 3) G M.p O (by omega) st_at (by omega) (by omega) (fun hb => ?_) (fun k hpN4 hX4 _ hkh => ?_)⟩
            · simp only [z109_147, z109_149, z109_151, z109_153, z109_156, z109_158, z109_170, z109_172, z109_174, z109_176, z109_179, z109_180, pv_catN, pv_cat1, pv_cat2, pv_cat3, pv_catL, Option.toList, List.nil_append, List.cons_append, List.append_nil, pv_rfS, pn_i, pn_r, pn_n, pn_o, true_and, and_true, Nat.le_refl, and_self, true_implies, false_implies, not_true_eq_false, not_false_eq_true, pv_b0, pv_b01, pv_bn0, pv_b1, Bool.false_eq_true, Bool.true_eq_false, Bool.not_false, Bool.not_true, pv_bT, pv_bF, eq_self, true_or, or_true]
              refine hP.1 _ (p + 3) (FRm.rf.sk (by omega)) (by omega) st_at ?_
              rw [r8]
              refine rg_f (by omega) (by show (8 : Nat) ≠ 4; decide) (hb.imp id (fun z => tk_no (by show (8 : Nat) ≠ 0; decide) (by show (8 : Nat) ≠ 4; decide) (fun f hf9 hf => ?_) z))
              rw [tf8 rfl]
              unfold t8
              rw [if_neg (fun y => hf ⟨Nat.zero_le f, (cond f hf9).mp y⟩)]
            · rw [pl]
              have hk3 : k ≤ 3 := by omega
              have ht8 : t8 (wS s 8 w v a (ak s)) k = some (wS s 9 w v a k) := by
                unfold t8
                rw [if_pos ((cond k (by omega)).mpr hkh)]
                rfl
              have r9 : rg (xX x) (xN x - p) p s = rg (xX x) (xN x - (p + 4)) (p + 4) (wS s 9 w v a k) := by
                rw [r8]
                exact rg_t hpN4 (by rw [tk_yes (by show (8 : Nat) ≠ 0; decide) (by show (8 : Nat) ≠ 4; decide) (by omega) hX4, tf8 rfl, ht8])
              have A9 : okA (wS s 9 w v a k) := t8_ok A8 rfl ht8
              simp only [z109_147, z109_149, z109_151, z109_153, z109_161, z109_162, z109_163, z109_165, pv_catN, pv_cat1, pv_cat2, pv_cat3, pv_catL, Option.toList, List.nil_append, List.cons_append, List.append_nil, pv_rfS, pn_i, pn_r, pn_n, pn_o, true_and, and_true, Nat.le_refl, and_self, true_implies, false_implies, not_true_eq_false, not_false_eq_true, pv_b0, pv_b01, pv_bn0, pv_b1, Bool.false_eq_true, Bool.true_eq_false, Bool.not_false, Bool.not_true, pv_bT, pv_bF, eq_self, true_or, or_true, n9 (show k < 2 ^ 30 by omega)]
              rw [z109_167 (by simp [pv_cat, Value.category]) (by decide)]
              have c9 : ∀ f, (aBe (wS s 9 w v a k) f && (!decide (ak (wS s 9 w v a k) = 3) || aPl (wS s 9 w v a k) f)) = true ↔ (f < aF s ∧ w ≤ aM s f ∧ (k = 3 → 0 < aR s ∧ f = aG s (aR s - 1))) := by
                intro f
                show ((decide (f < aF s) && decide (w ≤ aM s f)) && (!decide (k = 3) || (decide (0 < aR s) && decide (f = aG s (aR s - 1))))) = true ↔ _
                rw [Bool.and_eq_true_iff, Bool.and_eq_true_iff, decide_eq_true_iff, decide_eq_true_iff]
                constructor
                · rintro ⟨⟨y1, y2⟩, y3⟩
                  refine ⟨y1, y2, fun y4 => ?_⟩
                  rw [decide_eq_true y4] at y3
                  have y3 := Bool.and_eq_true_iff.mp y3
                  exact ⟨of_decide_eq_true y3.1, of_decide_eq_true y3.2⟩
                · rintro ⟨y1, y2, y3⟩
                  refine ⟨⟨y1, y2⟩, ?_⟩
                  by_cases y4 : k = 3
                  · rw [decide_eq_true (y3 y4).1, decide_eq_true (y3 y4).2]
                    simp
                  · rw [decide_eq_false y4]
                    rfl
              have hio : ∀ f, f < 2 ^ 30 → (nI f = i5 ↔ 0 < aR s ∧ f = aG s (aR s - 1)) := by
                intro f hf
                by_cases cR : 0 < aR s
                · have hg := (A.b.2.1 (aR s - 1) (by omega)).2.2.2.2.2.1
                  rw [hi1 cR, nI_eq' (by omega) (by omega)]
                  exact ⟨fun y => ⟨cR, y⟩, fun y => y.2⟩
                · rw [hi2 (by omega), n9 hf]
                  exact ⟨fun y => y.elim, fun y => absurd y.1 cR⟩
              refine ⟨G.o, m108 (s := s) G M.p O C.p A (by omega) (p := p + 4) (by omega) st_at hw9 hk3 (fun hb => ?_) (fun f hpN5 hX5 hfF hwM hk5 => ?_)⟩
              · simp only [z109_170, z109_172, z109_174, z109_176, z109_179, z109_180, pv_catN, pv_cat1, pv_cat2, pv_cat3, pv_catL, Option.toList, List.nil_append, List.cons_append, List.append_nil, pv_rfS, pn_i, pn_r, pn_n, pn_o, true_and, and_true, Nat.le_refl, and_self, true_implies, false_implies, not_true_eq_false, not_false_eq_true, pv_b0, pv_b01, pv_bn0, pv_b1, Bool.false_eq_true, Bool.true_eq_false, Bool.not_false, Bool.not_true, pv_bT, pv_bF, eq_self, true_or, or_true]
                refine hP.1 _ (p + 4) (FRm.rf.sk (by omega)) (by omega) st_at ?_
                rw [r9]
                refine rg_f (by omega) (by show (9 : Nat) ≠ 4; decide) (hb.imp id (fun z => ?_))
                rw [tk_f (by show (9 : Nat) ≠ 0; decide) (by show (9 : Nat) ≠ 4; decide)]
                split
                · rename_i hc
                  rw [tf9 rfl]
                  unfold t9
                  rw [if_neg (fun y => ?_)]
                  have y := (c9 _).mp y
                  exact z (xX x (p + 4) - 48) (by omega) ⟨y.1, y.2.1, fun y4 => (hio _ (by omega)).mpr (y.2.2 y4)⟩
                · rfl
              · rw [pl]
                have ht9 : t9 (wS s 9 w v a k) f = some (4, aL s, aT s, w, v, a, k, ai s, aF s, aB s, updN (aM s) f (aM s f - w), aR s + 1, updN (aW s) (aR s) w, updN (aV s) (aR s) v, updN (aA s) (aR s) a, updN (aK s) (aR s) k, updN (aG s) (aR s) f, aC s) := by
                  unfold t9
                  rw [if_pos ((c9 f).mpr ⟨hfF, hwM, fun y4 => (hio f (by omega)).mp (hk5 y4)⟩)]
                  rfl
                have r10 := r9.trans (rg_t hpN5 (by rw [tk_yes (by show (9 : Nat) ≠ 0; decide) (by show (9 : Nat) ≠ 4; decide) (show f ≤ 9 by omega) hX5, tf9 rfl, ht9]))
                exact fin w v a k f hw1 hw9 hv9 ha9 hk3 (by omega) ht9 A9 hfF hwM r10 _ _ _
          cases hb : (decide (0 < aR s) && decide (w ≤ aM s (aG s (aR s - 1)))) with
          | true =>
            rw [hb] at at144
            exact ⟨fun c => (by cases c), fun _ => at144 3 rfl⟩
          | false =>
            rw [hb] at at144
            exact ⟨fun _ => at144 2 rfl, fun c => absurd rfl c⟩
  simp only [e109, z109_0, pv_catN, pv_cat1, pv_cat2, pv_cat3, pv_catL, Option.toList, List.nil_append, List.cons_append, List.append_nil, pv_rfS, pn_i, pn_r, pn_n, pn_o, true_and, and_true, Nat.le_refl, and_self, true_implies, false_implies, not_true_eq_false, not_false_eq_true, pv_b0, pv_b01, pv_bn0, pv_b1, Bool.false_eq_true, Bool.true_eq_false, Bool.not_false, Bool.not_true, pv_bT, pv_bF, eq_self, true_or, or_true]
  rw [z109_1 (by simp [pv_cat, Value.category]) (by decide)]
  refine ⟨G.o, m107 G C A (by omega) ?_⟩
  have e9 : ((9 : Int32) ≤ nI (mxN (aM s) (aF s))) = (9 ≤ mxN (aM s) (aF s)) := nI_le' (a := 9) (by decide) (by omega)
  simp only [z109_4, z109_5, z109_6, z109_7, z109_8, z109_10, z109_13, z109_14, z109_17, pv_catN, pv_cat1, pv_cat2, pv_cat3, pv_catL, Option.toList, List.nil_append, List.cons_append, List.append_nil, pv_rfS, pn_i, pn_r, pn_n, pn_o, true_and, and_true, Nat.le_refl, and_self, true_implies, false_implies, not_true_eq_false, not_false_eq_true, pv_b0, pv_b01, pv_bn0, pv_b1, Bool.false_eq_true, Bool.true_eq_false, Bool.not_false, Bool.not_true, pv_bT, pv_bF, eq_self, true_or, or_true, e9]
  exact ⟨fun c => at19 9 (by omega) (fun f h1 h2 => by omega), fun c => at19 _ (by omega) (fun f h1 h2 => Iff.rfl)⟩
