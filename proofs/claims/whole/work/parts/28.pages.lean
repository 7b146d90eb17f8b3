/-! PAGES of the model: layPage, takePage, note -/
theorem nL1 {b : Nat} : nI b + 1 = nI (b + 1) := nI_add b 1
theorem nL8 {b : Nat} : nI b + 8 = nI (b + 8) := nI_add b 8
theorem nL16 {b : Nat} : nI b + 16 = nI (b + 16) := nI_add b 16
theorem nL24 {b : Nat} : nI b + 24 = nI (b + 24) := nI_add b 24
theorem nL32 {b : Nat} : nI b + 32 = nI (b + 32) := nI_add b 32
theorem nL33 {b : Nat} : nI b + 33 = nI (b + 33) := nI_add b 33
theorem nL34 {b : Nat} : nI b + 34 = nI (b + 34) := nI_add b 34
theorem nL35 {b : Nat} : nI b + 35 = nI (b + 35) := nI_add b 35
theorem le8 {r : Nat} (h : r < 8) : ((8 : Int32) ≤ nI r) = False := eq_false (by rw [show (8 : Int32) = nI 8 from rfl, nI_le' (by decide) (by omega)]; omega)
theorem le88 : ((8 : Int32) ≤ nI 8) = True := eq_true (by decide)
set_option maxHeartbeats 1000000 in
theorem m128 {d : Nat} {P : PvP} {g : PvG} {h : PvH} {t : ST} {s : SS} {ix : Nat → Nat} (G : gM g) (M : cM h t s ix) (hR : tR t ≤ 8) {a b n : Nat} (ta : pv_tg g a = (100, n)) (hb : b + 35 ≤ n) (hn : n ≤ 400) (ha : a = 117 ∨ a = 118) (hP : ∀ h' : PvH, (∀ o, o ≠ a → h' o = h o) → (∀ k, k < b ∨ b + 35 ≤ k → h' a k = h a k) → cP h' a b (tR t) s → P none g h') : pv_run (d + 1) 128 [.ref 102, .ref a, .int (nI b)] g h P := by
  have n2 : 102 ≠ a := by omega
  have n6 : 106 ≠ a := by omega
  have n8 : 108 ≠ a := by omega
  have n9 : 109 ≠ a := by omega
  have n10 : 110 ≠ a := by omega
  have loop : ∀ m r (h1 : PvH), r + m = 8 → (∀ o, o ≠ a → h1 o = h o) → (∀ k, k < b ∨ b + 35 ≤ k → h1 a k = h a k) → (∀ j, j < r → h1 a (b + j) = h 106 j ∧ h1 a (b + 8 + j) = h 108 j ∧ h1 a (b + 16 + j) = h 109 j ∧ h1 a (b + 24 + j) = if h 110 j = 0 then 0 else 1) → pv_E d 128 P 2 [some (.ref 102), some (.ref a), some (.int (nI b)), some (.int (nI r))] [] 0 0 g h1 := by
    intro m
    induction m with
    | zero =>
      intro r h1 hr f1 f2 f3
      have hr : r = 8 := hr
      subst hr
      rw [z128_2]
      simp only [z128_0, z128_1, z128_3, z128_5, z128_8, z128_9, z128_10, z128_11, z128_12, z128_13, z128_16, z128_17, z128_18, z128_19, z128_20, z128_21, z128_23, z128_24, z128_25, z128_26, z128_27, z128_30, z128_31, z128_32, z128_33, z128_34, z128_35, z128_37, z128_38, z128_39, z128_40, z128_41, z128_44, z128_45, z128_46, z128_47, z128_48, z128_49, z128_51, z128_52, z128_53, z128_54, z128_55, z128_58, z128_59, z128_60, z128_63, z128_64, z128_67, z128_68, z128_69, z128_72, z128_75, z128_76, z128_77, z128_79, z128_80, z128_81, z128_84, z128_85, z128_86, z128_87, z128_89, z128_90, z128_91, z128_94, z128_95, z128_96, z128_97, z128_99, z128_100, z128_101, z128_104, z128_105, pv_catN, pv_cat1, pv_cat2, pv_cat3, pv_catL, Option.toList, List.nil_append, List.cons_append, List.append_nil, pv_rfS, pn_i, pn_r, pn_n, pn_o, true_and, and_true, Nat.le_refl, and_self, true_implies, false_implies, not_true_eq_false, not_false_eq_true, pv_b0, pv_b01, pv_bn0, pv_b1, Bool.false_eq_true, Bool.true_eq_false, Bool.not_false, Bool.not_true, pv_bT, pv_bF, eq_self, le88, G.o, ta, nL32, nL33, nL34, vp_nI (show b + 32 < n by omega) (show n < 2 ^ 31 by omega), vp_nI (show b + 33 < n by omega) (show n < 2 ^ 31 by omega), vp_nI (show b + 34 < n by omega) (show n < 2 ^ 31 by omega), nI_clamp (show b + 32 < 2 ^ 31 by omega), nI_clamp (show b + 33 < 2 ^ 31 by omega), nI_clamp (show b + 34 < 2 ^ 31 by omega), st_o n2, f1 102 n2, M.H, M.E, M.L]
      refine hP _ (fun o ho => by rw [st_o ho, st_o ho, st_o ho, f1 o ho]) (fun k hk => by rw [st_k (by omega), st_k (by omega), st_k (by omega), f2 k hk]) ⟨fun r hr => ?_, fun r hr => ?_, fun r hr => ?_, fun r hr => ?_, ?_, ?_, ?_⟩
      · rw [st_k (by omega), st_k (by omega), st_k (by omega), (f3 r (by omega)).1]; exact M.V r hr
      · rw [st_k (by omega), st_k (by omega), st_k (by omega), (f3 r (by omega)).2.1]; exact M.K r hr
      · rw [st_k (by omega), st_k (by omega), st_k (by omega), (f3 r (by omega)).2.2.1]; exact M.P r hr
      · rw [st_k (by omega), st_k (by omega), st_k (by omega), (f3 r (by omega)).2.2.2, M.D r hr]
        cases (sD s).testBit r <;> rfl
      · rw [st_k (by omega), st_k (by omega), st_at]
      · rw [st_k (by omega), st_at]
      · rw [st_at]
    | succ m ih =>
      intro r h1 hr f1 f2 f3
      have hr8 : r < 8 := by omega
      have fin : ∀ v : Int32, v = (if h 110 r = 0 then 0 else 1) → pv_E d 128 P 2 [some (.ref 102), some (.ref a), some (.int (nI b)), some (.int (nI (r + 1)))] [] 0 0 g (pv_st (pv_st (pv_st (pv_st h1 a (b + r) (h 106 r)) a (b + 8 + r) (h 108 r)) a (b + 16 + r) (h 109 r)) a (b + 24 + r) v) := by
        intro v hv
        refine ih (r + 1) _ (by omega) (fun o ho => by rw [st_o ho, st_o ho, st_o ho, st_o ho, f1 o ho]) (fun k hk => by rw [st_k (by omega), st_k (by omega), st_k (by omega), st_k (by omega), f2 k hk]) (fun j hj => ?_)
        by_cases c : j = r
        · subst c
          refine ⟨?_, ?_, ?_, ?_⟩
          · rw [st_k (by omega), st_k (by omega), st_k (by omega), st_at]
          · rw [st_k (by omega), st_k (by omega), st_at]
          · rw [st_k (by omega), st_at]
          · rw [st_at, hv]
        · obtain ⟨q1, q2, q3, q4⟩ := f3 j (by omega)
          refine ⟨?_, ?_, ?_, ?_⟩
          · rw [st_k (by omega), st_k (by omega), st_k (by omega), st_k (by omega)]; exact q1
          · rw [st_k (by omega), st_k (by omega), st_k (by omega), st_k (by omega)]; exact q2
          · rw [st_k (by omega), st_k (by omega), st_k (by omega), st_k (by omega)]; exact q3
          · rw [st_k (by omega), st_k (by omega), st_k (by omega), st_k (by omega)]; exact q4
      rw [z128_2]
      simp only [z128_0, z128_1, z128_3, z128_5, z128_8, z128_9, z128_10, z128_11, z128_12, z128_13, z128_16, z128_17, z128_18, z128_19, z128_20, z128_21, z128_23, z128_24, z128_25, z128_26, z128_27, z128_30, z128_31, z128_32, z128_33, z128_34, z128_35, z128_37, z128_38, z128_39, z128_40, z128_41, z128_44, z128_45, z128_46, z128_47, z128_48, z128_49, z128_51, z128_52, z128_53, z128_54, z128_55, z128_58, z128_59, z128_60, z128_63, z128_64, z128_67, z128_68, z128_69, z128_72, z128_75, z128_76, z128_77, z128_79, z128_80, z128_81, z128_84, z128_85, z128_86, z128_87, z128_89, z128_90, z128_91, z128_94, z128_95, z128_96, z128_97, z128_99, z128_100, z128_101, z128_104, z128_105, pv_catN, pv_cat1, pv_cat2, pv_cat3, pv_catL, Option.toList, List.nil_append, List.cons_append, List.append_nil, pv_rfS, pn_i, pn_r, pn_n, pn_o, true_and, and_true, Nat.le_refl, and_self, true_implies, false_implies, not_true_eq_false, not_false_eq_true, pv_b0, pv_b01, pv_bn0, pv_b1, Bool.false_eq_true, Bool.true_eq_false, Bool.not_false, Bool.not_true, pv_bT, pv_bF, eq_self, le8 hr8, G.o, G.r8, G.t106, G.r10, G.t108, G.r11, G.t109, G.r12, G.t110, ta, nL8, nL16, nL24, nI_add, nI_1, vp_nI hr8 (show 8 < 2 ^ 31 by decide), nI_clamp (show r < 2 ^ 31 by omega), vp_nI (show b + r < n by omega) (show n < 2 ^ 31 by omega), vp_nI (show b + 8 + r < n by omega) (show n < 2 ^ 31 by omega), vp_nI (show b + 16 + r < n by omega) (show n < 2 ^ 31 by omega), vp_nI (show b + 24 + r < n by omega) (show n < 2 ^ 31 by omega), nI_clamp (show b + r < 2 ^ 31 by omega), nI_clamp (show b + 8 + r < 2 ^ 31 by omega), nI_clamp (show b + 16 + r < 2 ^ 31 by omega), nI_clamp (show b + 24 + r < 2 ^ 31 by omega), st_o n6, st_o n8, st_o n9, st_o n10, f1 106 n6, f1 108 n8, f1 109 n9, f1 110 n10]
      exact ⟨fun c => fin _ (by rw [if_pos c]), fun c => fin _ (by rw [if_neg c])⟩
  simp only [e128, z128_0, z128_1, pv_catN, pv_cat1, pv_cat2, pv_cat3, pv_catL, Option.toList, List.nil_append, List.cons_append, List.append_nil, pv_rfS, pn_i, pn_r, pn_n, pn_o, true_and, and_true, Nat.le_refl, and_self, true_implies, false_implies, not_true_eq_false, not_false_eq_true, pv_b0, pv_b01, pv_bn0, pv_b1, Bool.false_eq_true, Bool.true_eq_false, Bool.not_false, Bool.not_true, pv_bT, pv_bF, eq_self]
  exact loop 8 0 h rfl (fun _ _ => rfl) (fun _ _ => rfl) (fun j hj => absurd hj (Nat.not_lt_zero j))
set_option maxHeartbeats 1000000 in
theorem m129 {d : Nat} {P : PvP} {g : PvG} {h : PvH} {R : Nat} {s : SS} (G : gM g) (hR : R ≤ 8) {a b n : Nat} (C : cP h a b R s) (ta : pv_tg g a = (100, n)) (hb : b + 35 ≤ n) (hn : n ≤ 400) (ha : a = 117 ∨ a = 118) (hP : ∀ h' : PvH, (∀ o, o ≠ 102 → o ≠ 106 → o ≠ 108 → o ≠ 109 → o ≠ 110 → h' o = h o) → (∀ k, k ≠ 15 → k ≠ 16 → k ≠ 17 → h' 102 k = h 102 k) → (∀ r, r < R → h' 106 r = nI (sV s r)) → (∀ r, r < R → h' 108 r = nI (sK s r)) → (∀ r, r < R → h' 109 r = nI (sP s r)) → (∀ r, r < R → h' 110 r = pv_b ((sD s).testBit r)) → h' 102 15 = nI (sH s) → h' 102 16 = nI (sE s) → h' 102 17 = nI (sL s) → P none g h') : pv_run (d + 1) 129 [.ref 102, .ref a, .int (nI b)] g h P := by
  have n2 : a ≠ 102 := by omega
  have n6 : a ≠ 106 := by omega
  have n8 : a ≠ 108 := by omega
  have n9 : a ≠ 109 := by omega
  have n10 : a ≠ 110 := by omega
  have loop : ∀ m r (h1 : PvH), r + m = 8 → (∀ o, o ≠ 106 → o ≠ 108 → o ≠ 109 → o ≠ 110 → h1 o = h o) → (∀ j, j < r → h1 106 j = h a (b + j) ∧ h1 108 j = h a (b + 8 + j) ∧ h1 109 j = h a (b + 16 + j) ∧ h1 110 j = if h a (b + 24 + j) = 1 then 1 else 0) → pv_E d 129 P 2 [some (.ref 102), some (.ref a), some (.int (nI b)), some (.int (nI r))] [] 0 0 g h1 := by
    intro m
    induction m with
    | zero =>
      intro r h1 hr f1 f3
      have hr : r = 8 := hr
      subst hr
      rw [z129_2]
      simp only [z129_0, z129_1, z129_3, z129_5, z129_8, z129_9, z129_12, z129_13, z129_14, z129_15, z129_16, z129_17, z129_18, z129_19, z129_20, z129_23, z129_24, z129_25, z129_26, z129_28, z129_29, z129_30, z129_31, z129_32, z129_33, z129_34, z129_37, z129_38, z129_39, z129_40, z129_42, z129_43, z129_44, z129_45, z129_46, z129_47, z129_48, z129_51, z129_52, z129_53, z129_54, z129_56, z129_57, z129_58, z129_59, z129_60, z129_61, z129_64, z129_65, z129_68, z129_69, z129_70, z129_73, z129_76, z129_77, z129_78, z129_79, z129_81, z129_82, z129_83, z129_86, z129_87, z129_88, z129_89, z129_91, z129_92, z129_93, z129_96, z129_97, z129_98, z129_99, z129_101, z129_102, z129_103, z129_106, pv_catN, pv_cat1, pv_cat2, pv_cat3, pv_catL, Option.toList, List.nil_append, List.cons_append, List.append_nil, pv_rfS, pn_i, pn_r, pn_n, pn_o, true_and, and_true, Nat.le_refl, and_self, true_implies, false_implies, not_true_eq_false, not_false_eq_true, pv_b0, pv_b01, pv_bn0, pv_b1, Bool.false_eq_true, Bool.true_eq_false, Bool.not_false, Bool.not_true, pv_bT, pv_bF, eq_self, le88, G.o, ta, nL32, nL33, nL34, vp_nI (show b + 32 < n by omega) (show n < 2 ^ 31 by omega), vp_nI (show b + 33 < n by omega) (show n < 2 ^ 31 by omega), vp_nI (show b + 34 < n by omega) (show n < 2 ^ 31 by omega), nI_clamp (show b + 32 < 2 ^ 31 by omega), nI_clamp (show b + 33 < 2 ^ 31 by omega), nI_clamp (show b + 34 < 2 ^ 31 by omega), st_o n2, f1 a n6 n8 n9 n10, C.2.2.2.2.1, C.2.2.2.2.2.1, C.2.2.2.2.2.2]
      refine hP _ (fun o h2 h6 h8 h9 h10 => by rw [st_o h2, st_o h2, st_o h2, f1 o h6 h8 h9 h10]) (fun k h1 h2 h3 => by rw [st_k h3, st_k h2, st_k h1, f1 102 (by omega) (by omega) (by omega) (by omega)]) (fun r hr => ?_) (fun r hr => ?_) (fun r hr => ?_) (fun r hr => ?_) ?_ ?_ ?_
      · rw [st_o (by omega), st_o (by omega), st_o (by omega), (f3 r (by omega)).1]; exact C.1 r hr
      · rw [st_o (by omega), st_o (by omega), st_o (by omega), (f3 r (by omega)).2.1]; exact C.2.1 r hr
      · rw [st_o (by omega), st_o (by omega), st_o (by omega), (f3 r (by omega)).2.2.1]; exact C.2.2.1 r hr
      · rw [st_o (by omega), st_o (by omega), st_o (by omega), (f3 r (by omega)).2.2.2, C.2.2.2.1 r hr]
        cases (sD s).testBit r <;> rfl
      · rw [st_k (by omega), st_k (by omega), st_at]
      · rw [st_k (by omega), st_at]
      · rw [st_at]
    | succ m ih =>
      intro r h1 hr f1 f3
      have hr8 : r < 8 := by omega
      have ea := f1 a n6 n8 n9 n10
      have fin : ∀ v : Int32, v = (if h a (b + 24 + r) = 1 then 1 else 0) → pv_E d 129 P 2 [some (.ref 102), some (.ref a), some (.int (nI b)), some (.int (nI (r + 1)))] [] 0 0 g (pv_st (pv_st (pv_st (pv_st h1 106 r (h a (b + r))) 108 r (h a (b + 8 + r))) 109 r (h a (b + 16 + r))) 110 r v) := by
        intro v hv
        refine ih (r + 1) _ (by omega) (fun o h6 h8 h9 h10 => by rw [st_o h10, st_o h9, st_o h8, st_o h6, f1 o h6 h8 h9 h10]) (fun j hj => ?_)
        by_cases c : j = r
        · subst c
          refine ⟨?_, ?_, ?_, ?_⟩
          · rw [st_o (by omega), st_o (by omega), st_o (by omega), st_at]
          · rw [st_o (by omega), st_o (by omega), st_at]
          · rw [st_o (by omega), st_at]
          · rw [st_at, hv]
        · obtain ⟨q1, q2, q3, q4⟩ := f3 j (by omega)
          refine ⟨?_, ?_, ?_, ?_⟩
          · rw [st_o (by omega), st_o (by omega), st_o (by omega), st_k c]; exact q1
          · rw [st_o (by omega), st_o (by omega), st_k c, st_o (by omega)]; exact q2
          · rw [st_o (by omega), st_k c, st_o (by omega), st_o (by omega)]; exact q3
          · rw [st_k c, st_o (by omega), st_o (by omega), st_o (by omega)]; exact q4
      rw [z129_2]
      simp only [z129_0, z129_1, z129_3, z129_5, z129_8, z129_9, z129_12, z129_13, z129_14, z129_15, z129_16, z129_17, z129_18, z129_19, z129_20, z129_23, z129_24, z129_25, z129_26, z129_28, z129_29, z129_30, z129_31, z129_32, z129_33, z129_34, z129_37, z129_38, z129_39, z129_40, z129_42, z129_43, z129_44, z129_45, z129_46, z129_47, z129_48, z129_51, z129_52, z129_53, z129_54, z129_56, z129_57, z129_58, z129_59, z129_60, z129_61, z129_64, z129_65, z129_68, z129_69, z129_70, z129_73, z129_76, z129_77, z129_78, z129_79, z129_81, z129_82, z129_83, z129_86, z129_87, z129_88, z129_89, z129_91, z129_92, z129_93, z129_96, z129_97, z129_98, z129_99, z129_101, z129_102, z129_103, z129_106, pv_catN, pv_cat1, pv_cat2, pv_cat3, pv_catL, Option.toList, List.nil_append, List.cons_append, List.append_nil, pv_rfS, pn_i, pn_r, pn_n, pn_o, true_and, and_true, Nat.le_refl, and_self, true_implies, false_implies, not_true_eq_false, not_false_eq_true, pv_b0, pv_b01, pv_bn0, pv_b1, Bool.false_eq_true, Bool.true_eq_false, Bool.not_false, Bool.not_true, pv_bT, pv_bF, eq_self, le8 hr8, G.o, G.r8, G.t106, G.r10, G.t108, G.r11, G.t109, G.r12, G.t110, ta, nL8, nL16, nL24, nI_add, nI_1, vp_nI hr8 (show 8 < 2 ^ 31 by decide), nI_clamp (show r < 2 ^ 31 by omega), vp_nI (show b + r < n by omega) (show n < 2 ^ 31 by omega), vp_nI (show b + 8 + r < n by omega) (show n < 2 ^ 31 by omega), vp_nI (show b + 16 + r < n by omega) (show n < 2 ^ 31 by omega), vp_nI (show b + 24 + r < n by omega) (show n < 2 ^ 31 by omega), nI_clamp (show b + r < 2 ^ 31 by omega), nI_clamp (show b + 8 + r < 2 ^ 31 by omega), nI_clamp (show b + 16 + r < 2 ^ 31 by omega), nI_clamp (show b + 24 + r < 2 ^ 31 by omega), st_o n6, st_o n8, st_o n9, st_o n10, ea, true_or, or_true, show ((1 : Int32) = 0) = False from eq_false (by decide)]
      exact ⟨fun c => fin _ (by rw [if_neg c]), fun c => fin _ (by rw [if_pos (Classical.byContradiction c)])⟩
  simp only [e129, z129_0, z129_1, pv_catN, pv_cat1, pv_cat2, pv_cat3, pv_catL, Option.toList, List.nil_append, List.cons_append, List.append_nil, pv_rfS, pn_i, pn_r, pn_n, pn_o, true_and, and_true, Nat.le_refl, and_self, true_implies, false_implies, not_true_eq_false, not_false_eq_true, pv_b0, pv_b01, pv_bn0, pv_b1, Bool.false_eq_true, Bool.true_eq_false, Bool.not_false, Bool.not_true, pv_bT, pv_bF, eq_self]
  exact loop 8 0 h rfl (fun _ _ _ _ _ => rfl) (fun j hj => absurd hj (Nat.not_lt_zero j))
