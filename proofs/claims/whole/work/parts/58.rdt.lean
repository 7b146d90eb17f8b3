/-! THE READER of the class: takes, firstFault -/
theorem eq_b0 {b : Bool} {A B : Prop} (ha : b = true → A) (hb : b = false → B) : (b = false → B) ∧ (¬ b = false → A) := ⟨hb, fun q => ha (by cases b <;> simp_all)⟩
theorem m20 {d : Nat} {P : PvP} {g : PvG} {h : PvH} {rt tt : Nat} {q : Nat → Nat} {s : RS} (G : gC g rt tt q) (C1 : cR1 h s) (C : cR2 h tt s) (O : okA s) (hS : aS s ≠ 0 ∧ aS s ≠ 4) {f : Nat} (hf : f ≤ 9) (hP : TP P g h tt (tf s f)) : pv_run (d + 4) 20 [.ref 2, .int (nI f)] g h P := by
  have h11 := O.1
  have eS := C1.1
  have tI : (nI (aS s)).toInt = aS s := nI_toInt (by omega)
  simp only [e20, z20_0, z20_1, pv_catN, pv_cat1, pv_cat2, pv_cat3, pv_catL, Option.toList, List.nil_append, List.cons_append, List.append_nil, pv_rfS, pn_i, pn_r, pn_n, pn_o, true_and, and_true, Nat.le_refl, and_self, true_implies, false_implies, not_true_eq_false, not_false_eq_true, pv_b0, pv_b01, pv_bn0, pv_b1, Bool.false_eq_true, Bool.true_eq_false, Bool.not_false, Bool.not_true, pv_bT, pv_bF, eq_self, true_or, or_true, G.o2, eS]
  refine ts20_4 (fun c => ?_) (fun k hk c => ?_)
  · rw [tI] at c
    omega
  · rw [tI] at c
    have hk : aS s = k + 1 := by omega
    clear tI c
    match k, hk with
    | 0, hk =>
      have e : tf s f = t1 s f := by unfold tf; rw [if_pos hk]
      rw [e] at hP
      show pv_E (d + 3) 20 P 64 _ _ _ _ _ _
      simp only [z20_64, z20_65]
      rw [z20_66 (by simp [pv_cat, Value.category]) (by decide)]
      refine ⟨G.o2, m21 G C1 C O hk hf (hP.im (fun h' H => ?_) (fun h' H => ?_))⟩
      · simp only [z20_69, pv_catN, pv_cat1, pv_cat2, pv_cat3, pv_catL, Option.toList, List.nil_append, List.cons_append, List.append_nil, pv_rfS, pn_i, pn_r, pn_n, pn_o, true_and, and_true, Nat.le_refl, and_self, true_implies, false_implies, not_true_eq_false, not_false_eq_true, pv_b0, pv_b01, pv_bn0, pv_b1, Bool.false_eq_true, Bool.true_eq_false, Bool.not_false, Bool.not_true, pv_bT, pv_bF, eq_self, true_or, or_true]; exact H
      · simp only [z20_69, pv_catN, pv_cat1, pv_cat2, pv_cat3, pv_catL, Option.toList, List.nil_append, List.cons_append, List.append_nil, pv_rfS, pn_i, pn_r, pn_n, pn_o, true_and, and_true, Nat.le_refl, and_self, true_implies, false_implies, not_true_eq_false, not_false_eq_true, pv_b0, pv_b01, pv_bn0, pv_b1, Bool.false_eq_true, Bool.true_eq_false, Bool.not_false, Bool.not_true, pv_bT, pv_bF, eq_self, true_or, or_true]; exact H
    | 1, hk =>
      have e : tf s f = t2 s f := by unfold tf; rw [if_neg (by omega), if_pos hk]
      rw [e] at hP
      show pv_E (d + 3) 20 P 70 _ _ _ _ _ _
      simp only [z20_70, z20_71]
      rw [z20_72 (by simp [pv_cat, Value.category]) (by decide)]
      refine ⟨G.o2, m22 G C1 C O hk (hP.im (fun h' H => ?_) (fun h' H => ?_))⟩
      · simp only [z20_75, pv_catN, pv_cat1, pv_cat2, pv_cat3, pv_catL, Option.toList, List.nil_append, List.cons_append, List.append_nil, pv_rfS, pn_i, pn_r, pn_n, pn_o, true_and, and_true, Nat.le_refl, and_self, true_implies, false_implies, not_true_eq_false, not_false_eq_true, pv_b0, pv_b01, pv_bn0, pv_b1, Bool.false_eq_true, Bool.true_eq_false, Bool.not_false, Bool.not_true, pv_bT, pv_bF, eq_self, true_or, or_true]; exact H
      · simp only [z20_75, pv_catN, pv_cat1, pv_cat2, pv_cat3, pv_catL, Option.toList, List.nil_append, List.cons_append, List.append_nil, pv_rfS, pn_i, pn_r, pn_n, pn_o, true_and, and_true, Nat.le_refl, and_self, true_implies, false_implies, not_true_eq_false, not_false_eq_true, pv_b0, pv_b01, pv_bn0, pv_b1, Bool.false_eq_true, Bool.true_eq_false, Bool.not_false, Bool.not_true, pv_bT, pv_bF, eq_self, true_or, or_true]; exact H
    | 2, hk =>
      have e : tf s f = t3 s f := by unfold tf; rw [if_neg (by omega), if_neg (by omega), if_pos hk]
      rw [e] at hP
      show pv_E (d + 3) 20 P 76 _ _ _ _ _ _
      simp only [z20_76, z20_77]
      rw [z20_78 (by simp [pv_cat, Value.category]) (by decide)]
      refine ⟨G.o2, m23 G C1 C O hk hf (hP.im (fun h' H => ?_) (fun h' H => ?_))⟩
      · simp only [z20_81, pv_catN, pv_cat1, pv_cat2, pv_cat3, pv_catL, Option.toList, List.nil_append, List.cons_append, List.append_nil, pv_rfS, pn_i, pn_r, pn_n, pn_o, true_and, and_true, Nat.le_refl, and_self, true_implies, false_implies, not_true_eq_false, not_false_eq_true, pv_b0, pv_b01, pv_bn0, pv_b1, Bool.false_eq_true, Bool.true_eq_false, Bool.not_false, Bool.not_true, pv_bT, pv_bF, eq_self, true_or, or_true]; exact H
      · simp only [z20_81, pv_catN, pv_cat1, pv_cat2, pv_cat3, pv_catL, Option.toList, List.nil_append, List.cons_append, List.append_nil, pv_rfS, pn_i, pn_r, pn_n, pn_o, true_and, and_true, Nat.le_refl, and_self, true_implies, false_implies, not_true_eq_false, not_false_eq_true, pv_b0, pv_b01, pv_bn0, pv_b1, Bool.false_eq_true, Bool.true_eq_false, Bool.not_false, Bool.not_true, pv_bT, pv_bF, eq_self, true_or, or_true]; exact H
    | 3, hk => omega
    | 4, hk =>
      have e : tf s f = t5 s f := by unfold tf; rw [if_neg (by omega), if_neg (by omega), if_neg (by omega), if_pos hk]
      rw [e] at hP
      show pv_E (d + 3) 20 P 82 _ _ _ _ _ _
      simp only [z20_82, z20_83]
      rw [z20_84 (by simp [pv_cat, Value.category]) (by decide)]
      refine ⟨G.o2, m24 G C1 C O hk hf (hP.im (fun h' H => ?_) (fun h' H => ?_))⟩
      · simp only [z20_87, pv_catN, pv_cat1, pv_cat2, pv_cat3, pv_catL, Option.toList, List.nil_append, List.cons_append, List.append_nil, pv_rfS, pn_i, pn_r, pn_n, pn_o, true_and, and_true, Nat.le_refl, and_self, true_implies, false_implies, not_true_eq_false, not_false_eq_true, pv_b0, pv_b01, pv_bn0, pv_b1, Bool.false_eq_true, Bool.true_eq_false, Bool.not_false, Bool.not_true, pv_bT, pv_bF, eq_self, true_or, or_true]; exact H
      · simp only [z20_87, pv_catN, pv_cat1, pv_cat2, pv_cat3, pv_catL, Option.toList, List.nil_append, List.cons_append, List.append_nil, pv_rfS, pn_i, pn_r, pn_n, pn_o, true_and, and_true, Nat.le_refl, and_self, true_implies, false_implies, not_true_eq_false, not_false_eq_true, pv_b0, pv_b01, pv_bn0, pv_b1, Bool.false_eq_true, Bool.true_eq_false, Bool.not_false, Bool.not_true, pv_bT, pv_bF, eq_self, true_or, or_true]; exact H
    | 5, hk =>
      have e : tf s f = t6 s f := by unfold tf; rw [if_neg (by omega), if_neg (by omega), if_neg (by omega), if_neg (by omega), if_pos hk]
      rw [e] at hP
      show pv_E (d + 3) 20 P 88 _ _ _ _ _ _
      simp only [z20_88, z20_89]
      rw [z20_90 (by simp [pv_cat, Value.category]) (by decide)]
      refine ⟨G.o2, m25 G C1 C O hk (hP.im (fun h' H => ?_) (fun h' H => ?_))⟩
      · simp only [z20_93, pv_catN, pv_cat1, pv_cat2, pv_cat3, pv_catL, Option.toList, List.nil_append, List.cons_append, List.append_nil, pv_rfS, pn_i, pn_r, pn_n, pn_o, true_and, and_true, Nat.le_refl, and_self, true_implies, false_implies, not_true_eq_false, not_false_eq_true, pv_b0, pv_b01, pv_bn0, pv_b1, Bool.false_eq_true, Bool.true_eq_false, Bool.not_false, Bool.not_true, pv_bT, pv_bF, eq_self, true_or, or_true]; exact H
      · simp only [z20_93, pv_catN, pv_cat1, pv_cat2, pv_cat3, pv_catL, Option.toList, List.nil_append, List.cons_append, List.append_nil, pv_rfS, pn_i, pn_r, pn_n, pn_o, true_and, and_true, Nat.le_refl, and_self, true_implies, false_implies, not_true_eq_false, not_false_eq_true, pv_b0, pv_b01, pv_bn0, pv_b1, Bool.false_eq_true, Bool.true_eq_false, Bool.not_false, Bool.not_true, pv_bT, pv_bF, eq_self, true_or, or_true]; exact H
    | 6, hk =>
      have e : tf s f = t7 s f := by unfold tf; rw [if_neg (by omega), if_neg (by omega), if_neg (by omega), if_neg (by omega), if_neg (by omega), if_pos hk]
      rw [e] at hP
      show pv_E (d + 3) 20 P 94 _ _ _ _ _ _
      simp only [z20_94, z20_95]
      rw [z20_96 (by simp [pv_cat, Value.category]) (by decide)]
      refine ⟨G.o2, m26 G C1 C O hk (hP.im (fun h' H => ?_) (fun h' H => ?_))⟩
      · simp only [z20_99, pv_catN, pv_cat1, pv_cat2, pv_cat3, pv_catL, Option.toList, List.nil_append, List.cons_append, List.append_nil, pv_rfS, pn_i, pn_r, pn_n, pn_o, true_and, and_true, Nat.le_refl, and_self, true_implies, false_implies, not_true_eq_false, not_false_eq_true, pv_b0, pv_b01, pv_bn0, pv_b1, Bool.false_eq_true, Bool.true_eq_false, Bool.not_false, Bool.not_true, pv_bT, pv_bF, eq_self, true_or, or_true]; exact H
      · simp only [z20_99, pv_catN, pv_cat1, pv_cat2, pv_cat3, pv_catL, Option.toList, List.nil_append, List.cons_append, List.append_nil, pv_rfS, pn_i, pn_r, pn_n, pn_o, true_and, and_true, Nat.le_refl, and_self, true_implies, false_implies, not_true_eq_false, not_false_eq_true, pv_b0, pv_b01, pv_bn0, pv_b1, Bool.false_eq_true, Bool.true_eq_false, Bool.not_false, Bool.not_true, pv_bT, pv_bF, eq_self, true_or, or_true]; exact H
    | 7, hk =>
      have e : tf s f = t8 s f := by unfold tf; rw [if_neg (by omega), if_neg (by omega), if_neg (by omega), if_neg (by omega), if_neg (by omega), if_neg (by omega), if_pos hk]
      rw [e] at hP
      show pv_E (d + 3) 20 P 100 _ _ _ _ _ _
      simp only [z20_100, z20_101]
      rw [z20_102 (by simp [pv_cat, Value.category]) (by decide)]
      refine ⟨G.o2, m27 G C1 C O hk hf (hP.im (fun h' H => ?_) (fun h' H => ?_))⟩
      · simp only [z20_105, pv_catN, pv_cat1, pv_cat2, pv_cat3, pv_catL, Option.toList, List.nil_append, List.cons_append, List.append_nil, pv_rfS, pn_i, pn_r, pn_n, pn_o, true_and, and_true, Nat.le_refl, and_self, true_implies, false_implies, not_true_eq_false, not_false_eq_true, pv_b0, pv_b01, pv_bn0, pv_b1, Bool.false_eq_true, Bool.true_eq_false, Bool.not_false, Bool.not_true, pv_bT, pv_bF, eq_self, true_or, or_true]; exact H
      · simp only [z20_105, pv_catN, pv_cat1, pv_cat2, pv_cat3, pv_catL, Option.toList, List.nil_append, List.cons_append, List.append_nil, pv_rfS, pn_i, pn_r, pn_n, pn_o, true_and, and_true, Nat.le_refl, and_self, true_implies, false_implies, not_true_eq_false, not_false_eq_true, pv_b0, pv_b01, pv_bn0, pv_b1, Bool.false_eq_true, Bool.true_eq_false, Bool.not_false, Bool.not_true, pv_bT, pv_bF, eq_self, true_or, or_true]; exact H
    | 8, hk =>
      have e : tf s f = t9 s f := by unfold tf; rw [if_neg (by omega), if_neg (by omega), if_neg (by omega), if_neg (by omega), if_neg (by omega), if_neg (by omega), if_neg (by omega), if_pos hk]
      rw [e] at hP
      show pv_E (d + 3) 20 P 106 _ _ _ _ _ _
      simp only [z20_106, z20_107]
      rw [z20_108 (by simp [pv_cat, Value.category]) (by decide)]
      refine ⟨G.o2, m28 G C1 C O hk hf (hP.im (fun h' H => ?_) (fun h' H => ?_))⟩
      · simp only [z20_111, pv_catN, pv_cat1, pv_cat2, pv_cat3, pv_catL, Option.toList, List.nil_append, List.cons_append, List.append_nil, pv_rfS, pn_i, pn_r, pn_n, pn_o, true_and, and_true, Nat.le_refl, and_self, true_implies, false_implies, not_true_eq_false, not_false_eq_true, pv_b0, pv_b01, pv_bn0, pv_b1, Bool.false_eq_true, Bool.true_eq_false, Bool.not_false, Bool.not_true, pv_bT, pv_bF, eq_self, true_or, or_true]; exact H
      · simp only [z20_111, pv_catN, pv_cat1, pv_cat2, pv_cat3, pv_catL, Option.toList, List.nil_append, List.cons_append, List.append_nil, pv_rfS, pn_i, pn_r, pn_n, pn_o, true_and, and_true, Nat.le_refl, and_self, true_implies, false_implies, not_true_eq_false, not_false_eq_true, pv_b0, pv_b01, pv_bn0, pv_b1, Bool.false_eq_true, Bool.true_eq_false, Bool.not_false, Bool.not_true, pv_bT, pv_bF, eq_self, true_or, or_true]; exact H
    | 9, hk =>
      have e : tf s f = t10 s f := by unfold tf; rw [if_neg (by omega), if_neg (by omega), if_neg (by omega), if_neg (by omega), if_neg (by omega), if_neg (by omega), if_neg (by omega), if_neg (by omega), if_pos hk]
      rw [e] at hP
      show pv_E (d + 3) 20 P 112 _ _ _ _ _ _
      simp only [z20_112, z20_113]
      rw [z20_114 (by simp [pv_cat, Value.category]) (by decide)]
      refine ⟨G.o2, m29 G C1 C O hk hf (hP.im (fun h' H => ?_) (fun h' H => ?_))⟩
      · simp only [z20_117, pv_catN, pv_cat1, pv_cat2, pv_cat3, pv_catL, Option.toList, List.nil_append, List.cons_append, List.append_nil, pv_rfS, pn_i, pn_r, pn_n, pn_o, true_and, and_true, Nat.le_refl, and_self, true_implies, false_implies, not_true_eq_false, not_false_eq_true, pv_b0, pv_b01, pv_bn0, pv_b1, Bool.false_eq_true, Bool.true_eq_false, Bool.not_false, Bool.not_true, pv_bT, pv_bF, eq_self, true_or, or_true]; exact H
      · simp only [z20_117, pv_catN, pv_cat1, pv_cat2, pv_cat3, pv_catL, Option.toList, List.nil_append, List.cons_append, List.append_nil, pv_rfS, pn_i, pn_r, pn_n, pn_o, true_and, and_true, Nat.le_refl, and_self, true_implies, false_implies, not_true_eq_false, not_false_eq_true, pv_b0, pv_b01, pv_bn0, pv_b1, Bool.false_eq_true, Bool.true_eq_false, Bool.not_false, Bool.not_true, pv_bT, pv_bF, eq_self, true_or, or_true]; exact H
    | 10, hk =>
      have e : tf s f = t11 s f := by unfold tf; rw [if_neg (by omega), if_neg (by omega), if_neg (by omega), if_neg (by omega), if_neg (by omega), if_neg (by omega), if_neg (by omega), if_neg (by omega), if_neg (by omega), if_pos hk]
      rw [e] at hP
      show pv_E (d + 3) 20 P 118 _ _ _ _ _ _
      simp only [z20_118, z20_119]
      rw [z20_120 (by simp [pv_cat, Value.category]) (by decide)]
      refine ⟨G.o2, m30 G C1 C O hk hf (hP.im (fun h' H => ?_) (fun h' H => ?_))⟩
      · simp only [z20_123, pv_catN, pv_cat1, pv_cat2, pv_cat3, pv_catL, Option.toList, List.nil_append, List.cons_append, List.append_nil, pv_rfS, pn_i, pn_r, pn_n, pn_o, true_and, and_true, Nat.le_refl, and_self, true_implies, false_implies, not_true_eq_false, not_false_eq_true, pv_b0, pv_b01, pv_bn0, pv_b1, Bool.false_eq_true, Bool.true_eq_false, Bool.not_false, Bool.not_true, pv_bT, pv_bF, eq_self, true_or, or_true]; exact H
      · simp only [z20_123, pv_catN, pv_cat1, pv_cat2, pv_cat3, pv_catL, Option.toList, List.nil_append, List.cons_append, List.append_nil, pv_rfS, pn_i, pn_r, pn_n, pn_o, true_and, and_true, Nat.le_refl, and_self, true_implies, false_implies, not_true_eq_false, not_false_eq_true, pv_b0, pv_b01, pv_bn0, pv_b1, Bool.false_eq_true, Bool.true_eq_false, Bool.not_false, Bool.not_true, pv_bT, pv_bF, eq_self, true_or, or_true]; exact H
    | k + 11, hk => omega
theorem m19 {d : Nat} {P : PvP} {g : PvG} {h : PvH} {rt tt : Nat} {q : Nat → Nat} {s : RS} (G : gC g rt tt q) (C1 : cR1 h s) (C : cR2 h tt s) (O : okA s) (hS : aS s = 4) {c : Nat} (hc : c < 256) (hP : TP P g h tt (t4 s c)) : pv_run (d + 4) 19 [.ref 2, .int (nI c)] g h P := by
  obtain ⟨T0, T1, T3, T4, T5, T6, T7, T8, u1, u2, u3, u4, u5, u6, u7⟩ := G.Tt
  have ht := G.t2
  have hR := O.R
  have e82 : (nI c = 82) = (c = 82) := nI_eq' (b := 82) (by omega) (by decide)
  have e81 : (nI c = 81) = (c = 81) := nI_eq' (b := 81) (by omega) (by decide)
  have r8 : ((8 : Int32) ≤ nI (aR s)) = (8 ≤ aR s) := nI_le' (a := 8) (by decide) (by omega)
  have k1 : ∀ (h : PvH) (k : Nat) (v : Int32), pv_st h 2 k v tt = h tt := fun h k v => st_o (by omega)
  unfold t4 at hP
  simp only [e19, z19_0, z19_1, z19_3, z19_6, z19_7, z19_8, z19_11, z19_12, z19_15, z19_18, z19_20, z19_23, z19_24, z19_35, z19_36, z19_37, z19_38, z19_40, z19_43, z19_44, z19_46, z19_49, z19_60, z19_61, pv_catN, pv_cat1, pv_cat2, pv_cat3, pv_catL, Option.toList, List.nil_append, List.cons_append, List.append_nil, pv_rfS, pn_i, pn_r, pn_n, pn_o, true_and, and_true, Nat.le_refl, and_self, true_implies, false_implies, not_true_eq_false, not_false_eq_true, pv_b0, pv_b01, pv_bn0, pv_b1, Bool.false_eq_true, Bool.true_eq_false, Bool.not_false, Bool.not_true, pv_bT, pv_bF, eq_self, true_or, or_true, G.o2, G.r2_0, T0, k1, C.2.1, e82, e81, r8]
  refine ⟨fun c1 => ?_, fun c1 => ?_⟩
  · rw [if_neg c1] at hP
    refine ⟨fun c2 => hP.1 (by rw [if_neg (by rw [decide_eq_false c2]; simp)]) _ FRd.rf.s2, fun c2 => ?_⟩
    have c2 := Classical.not_not.mp c2
    rw [decide_eq_true c2, Bool.true_and] at hP
    rw [z19_50 (by simp [pv_cat, Value.category]) (by decide)]
    refine ⟨G.o2, m34 G (C.s2 ht) O ?_⟩
    simp only [z19_53, z19_56, z19_57, z19_60, z19_61, pv_catN, pv_cat1, pv_cat2, pv_cat3, pv_catL, Option.toList, List.nil_append, List.cons_append, List.append_nil, pv_rfS, pn_i, pn_r, pn_n, pn_o, true_and, and_true, Nat.le_refl, and_self, true_implies, false_implies, not_true_eq_false, not_false_eq_true, pv_b0, pv_b01, pv_bn0, pv_b1, Bool.false_eq_true, Bool.true_eq_false, Bool.not_false, Bool.not_true, pv_bT, pv_bF, eq_self, true_or, or_true]
    refine br (fun c3 => hP.1 (by rw [if_neg (by rw [c3]; exact Bool.false_ne_true)]) _ FRd.rf.s2) (fun c3 => ?_)
    rw [if_pos c3] at hP
    exact hP.2 _ rfl _ FRd.rf.s2 (cR1_mk (S := 10) rfl (by rw [st_at]; rfl) (fun _ => by rw [st_k (by decide)]; exact C1.2.1 (by omega)) (fun z => absurd z (by decide)) (fun z => absurd z (by decide)) (fun z => absurd z (by decide)) (fun z => absurd z (by decide)) (fun z => absurd z (by decide)) (fun z => absurd z (by decide))) (C.s2 ht)
  · have c1 := Classical.not_not.mp c1
    rw [if_pos c1] at hP
    refine ⟨fun c2 => hP.1 (by rw [if_neg (by rw [decide_eq_false (by omega)]; simp)]) _ FRd.rf.s2, fun c2 => ?_⟩
    rw [decide_eq_true (show aR s < 8 by omega), Bool.true_and] at hP
    rw [z19_25 (by simp [pv_cat, Value.category]) (by decide)]
    refine ⟨G.o2, m31 (w := 1) G (C.s2 ht) O (by omega) (by omega) ?_⟩
    simp only [z19_28, z19_31, z19_32, z19_35, z19_36, pv_catN, pv_cat1, pv_cat2, pv_cat3, pv_catL, Option.toList, List.nil_append, List.cons_append, List.append_nil, pv_rfS, pn_i, pn_r, pn_n, pn_o, true_and, and_true, Nat.le_refl, and_self, true_implies, false_implies, not_true_eq_false, not_false_eq_true, pv_b0, pv_b01, pv_bn0, pv_b1, Bool.false_eq_true, Bool.true_eq_false, Bool.not_false, Bool.not_true, pv_bT, pv_bF, eq_self, true_or, or_true]
    refine br (fun c3 => hP.1 (by rw [if_neg (by rw [c3]; exact Bool.false_ne_true)]) _ FRd.rf.s2) (fun c3 => ?_)
    rw [if_pos c3] at hP
    exact hP.2 _ rfl _ FRd.rf.s2 (cR1_mk (S := 5) rfl (by rw [st_at]; rfl) (fun _ => by rw [st_k (by decide)]; exact C1.2.1 (by omega)) (fun z => absurd z (by decide)) (fun z => absurd z (by decide)) (fun z => absurd z (by decide)) (fun z => absurd z (by decide)) (fun z => absurd z (by decide)) (fun z => absurd z (by decide))) (C.s2 ht)
theorem lo48 : ∀ c, c < 48 → (nI c - 48 < 0) = True := fun c hc => eq_true (by
  revert c
  decide)
theorem m18 {d : Nat} {P : PvP} {g : PvG} {h : PvH} {rt tt : Nat} {q : Nat → Nat} {s : RS} (G : gC g rt tt q) (C1 : cR1 h s) (C : cR2 h tt s) (O : okA s) {c : Nat} (hc : c < 256) (hP : TP P g h tt (tk s c)) : pv_run (d + 5) 18 [.ref 2, .int (nI c)] g h P := by
  have ht := G.t2
  have h11 := O.1
  have eS := C1.1
  have e0 : (nI (aS s) = 0) = (aS s = 0) := nI_eq' (b := 0) (by omega) (by decide)
  have e4 : (nI (aS s) = 4) = (aS s = 4) := nI_eq' (b := 4) (by omega) (by decide)
  have e84 : (nI c = 84) = (c = 84) := nI_eq' (b := 84) (by omega) (by decide)
  unfold tk at hP
  simp only [e18, z18_0, z18_1, z18_4, z18_7, z18_8, z18_9, z18_12, z18_13, z18_15, z18_18, z18_19, z18_22, z18_23, z18_24, z18_25, z18_28, z18_29, z18_32, z18_33, z18_38, z18_39, z18_41, z18_42, z18_43, z18_44, z18_65, z18_66, pv_catN, pv_cat1, pv_cat2, pv_cat3, pv_catL, Option.toList, List.nil_append, List.cons_append, List.append_nil, pv_rfS, pn_i, pn_r, pn_n, pn_o, true_and, and_true, Nat.le_refl, and_self, true_implies, false_implies, not_true_eq_false, not_false_eq_true, pv_b0, pv_b01, pv_bn0, pv_b1, Bool.false_eq_true, Bool.true_eq_false, Bool.not_false, Bool.not_true, pv_bT, pv_bF, eq_self, true_or, or_true, G.o2, eS, e0, e4, e84]
  refine ⟨fun c0 => ⟨fun c4 => ?_, fun c4 => ?_⟩, fun c0 => ?_⟩
  · rw [if_neg c0, if_neg c4] at hP
    by_cases c1 : c < 48
    · rw [lo48 c c1]
      simp only [true_implies, not_true_eq_false, false_implies, and_true]
      rw [if_neg (by omega)] at hP
      exact hP.1 rfl _ FRd.rf
    · have es : nI c - 48 = nI (c - 48) := pk_sub (b := 48) (by omega)
      have e9 : ((9 : Int32) < nI (c - 48)) = (9 < c - 48) := nI_lt' (a := 9) (by decide) (by omega)
      rw [es, lt0N (by omega)]
      simp only [false_implies, not_false_eq_true, true_implies, true_and, z18_47, z18_48, z18_50, z18_53, z18_54, z18_65, z18_66, pv_catN, pv_cat1, pv_cat2, pv_cat3, pv_catL, Option.toList, List.nil_append, List.cons_append, List.append_nil, pv_rfS, pn_i, pn_r, pn_n, pn_o, true_and, and_true, Nat.le_refl, and_self, true_implies, false_implies, not_true_eq_false, not_false_eq_true, pv_b0, pv_b01, pv_bn0, pv_b1, Bool.false_eq_true, Bool.true_eq_false, Bool.not_false, Bool.not_true, pv_bT, pv_bF, eq_self, true_or, or_true, e9]
      refine ⟨fun c2 => ?_, fun c2 => ?_⟩
      · rw [if_neg (by omega)] at hP
        exact hP.1 rfl _ FRd.rf
      · rw [if_pos (by omega)] at hP
        rw [z18_55 (by simp [pv_cat, Value.category]) (by decide)]
        refine ⟨G.o2, m20 G C1 C O ⟨c0, c4⟩ (by omega) (hP.im (fun h' H => ?_) (fun h' H => ?_))⟩
        · simp only [z18_58, z18_61, z18_62, z18_65, z18_66, pv_catN, pv_cat1, pv_cat2, pv_cat3, pv_catL, Option.toList, List.nil_append, List.cons_append, List.append_nil, pv_rfS, pn_i, pn_r, pn_n, pn_o, true_and, and_true, Nat.le_refl, and_self, true_implies, false_implies, not_true_eq_false, not_false_eq_true, pv_b0, pv_b01, pv_bn0, pv_b1, Bool.false_eq_true, Bool.true_eq_false, Bool.not_false, Bool.not_true, pv_bT, pv_bF, eq_self, true_or, or_true]; exact H
        · simp only [z18_58, z18_61, z18_62, z18_65, z18_66, pv_catN, pv_cat1, pv_cat2, pv_cat3, pv_catL, Option.toList, List.nil_append, List.cons_append, List.append_nil, pv_rfS, pn_i, pn_r, pn_n, pn_o, true_and, and_true, Nat.le_refl, and_self, true_implies, false_implies, not_true_eq_false, not_false_eq_true, pv_b0, pv_b01, pv_bn0, pv_b1, Bool.false_eq_true, Bool.true_eq_false, Bool.not_false, Bool.not_true, pv_bT, pv_bF, eq_self, true_or, or_true, i10]; exact H
  · have c4 := Classical.not_not.mp c4
    rw [if_neg c0, if_pos c4] at hP
    rw [z18_34 (by simp [pv_cat, Value.category]) (by decide)]
    refine ⟨G.o2, m19 G C1 C O c4 hc (hP.im (fun h' H => ?_) (fun h' H => ?_))⟩
    · simp only [z18_37, pv_catN, pv_cat1, pv_cat2, pv_cat3, pv_catL, Option.toList, List.nil_append, List.cons_append, List.append_nil, pv_rfS, pn_i, pn_r, pn_n, pn_o, true_and, and_true, Nat.le_refl, and_self, true_implies, false_implies, not_true_eq_false, not_false_eq_true, pv_b0, pv_b01, pv_bn0, pv_b1, Bool.false_eq_true, Bool.true_eq_false, Bool.not_false, Bool.not_true, pv_bT, pv_bF, eq_self, true_or, or_true]; exact H
    · simp only [z18_37, pv_catN, pv_cat1, pv_cat2, pv_cat3, pv_catL, Option.toList, List.nil_append, List.cons_append, List.append_nil, pv_rfS, pn_i, pn_r, pn_n, pn_o, true_and, and_true, Nat.le_refl, and_self, true_implies, false_implies, not_true_eq_false, not_false_eq_true, pv_b0, pv_b01, pv_bn0, pv_b1, Bool.false_eq_true, Bool.true_eq_false, Bool.not_false, Bool.not_true, pv_bT, pv_bF, eq_self, true_or, or_true]; exact H
  · have c0 := Classical.not_not.mp c0
    rw [if_pos c0] at hP
    unfold t0 at hP
    refine ⟨fun c2 => ?_, fun c2 => ?_⟩
    · rw [if_neg c2] at hP
      exact hP.1 rfl _ FRd.rf.s2
    · rw [if_pos (Classical.not_not.mp c2)] at hP
      exact hP.2 _ rfl _ FRd.rf.s2 (cR1_mk (S := 1) rfl (by rw [st_at]; rfl) (fun z => absurd z (by decide)) (fun z => absurd z (by decide)) (fun z => absurd z (by decide)) (fun z => absurd z (by decide)) (fun z => absurd z (by decide)) (fun z => absurd z (by decide)) (fun z => absurd z (by decide))) (C.s2 ht)
/-- what the reader leaves of the class as it was -/
theorem FRd.cC {h h' : PvH} {g : PvG} {rt tt : Nat} {q : Nat → Nat} {x : SX} (F : FRd h h' tt) (G : gC g rt tt q) (C : cC h rt q x) (O : okX x) : cC h' rt q x := by
  have hr := G.rt
  exact C.fr G O (fun o ho => F o (by omega) (by omega) (by omega)) ⟨by rw [F 0 (by omega) (by omega) (by omega)], by rw [F 25 (by omega) (by omega) (by omega)], by rw [F 67 (by omega) (by omega) (by omega)], by rw [F 73 (by omega) (by omega) (by omega)]⟩
theorem m17 {d : Nat} {P : PvP} {g : PvG} {h : PvH} {rt tt : Nat} {q : Nat → Nat} {x : SX} (G : gC g rt tt q) (C : cC h rt q x) (O : okX x) (hP : ∀ h', FRd h h' tt → ((readR x).1 = none → cR2 h' tt (readR x).2) → P (some (.int (fauA x))) g h') : pv_run (d + 6) 17 [.ref 2, .ref 1, .int (nI (xN x))] g h P := by
  obtain ⟨T0, T1, T3, T4, T5, T6, T7, T8, u1, u2, u3, u4, u5, u6, u7⟩ := G.Tt
  have ht := G.t2
  have hN : xN x ≤ 76 := O.2.2.2.2.2.2.2.1
  have hX := O.2.2.2.2.2.2.2.2
  have e76 : (Int32.ofNat 76 : Int32) = nI 76 := rfl
  have loop : ∀ m p (s : RS) (h1 : PvH), p + m = xN x → FRd h h1 tt → cR1 h1 s → cR2 h1 tt s → okA s → readR x = rg (xX x) m p s → pv_E (d + 5) 17 P 23 [some (.ref 2), some (.ref 1), some (.int (nI (xN x))), some (.int (nI p))] [] 0 0 g h1 := by
    intro m
    induction m with
    | zero =>
      intro p s h1 hp F C1 C2 A e
      have hp : p = xN x := hp
      subst hp
      have h11 := A.1
      have e4 : (nI (aS s) = 4) = (aS s = 4) := nI_eq' (b := 4) (by omega) (by decide)
      unfold rg at e
      rw [z17_23]
      simp only [z17_24, z17_25, z17_52, z17_53, z17_56, z17_57, z17_60, z17_62, z17_65, z17_66, pv_catN, pv_cat1, pv_cat2, pv_cat3, pv_catL, Option.toList, List.nil_append, List.cons_append, List.append_nil, pv_rfS, pn_i, pn_r, pn_n, pn_o, true_and, and_true, Nat.le_refl, and_self, true_implies, false_implies, not_true_eq_false, not_false_eq_true, pv_b0, pv_b01, pv_bn0, pv_b1, Bool.false_eq_true, Bool.true_eq_false, Bool.not_false, Bool.not_true, pv_bT, pv_bF, eq_self, true_or, or_true, nI_le' (show xN x < 2 ^ 31 by omega) (show xN x < 2 ^ 31 by omega), G.o2, C1.1, e4]
      have := hP h1 F
      refine ⟨fun c => ?_, fun c => ?_⟩
      · rw [if_neg c] at e
        unfold fauA at this
        rw [e] at this
        exact this (fun z => by cases z)
      · rw [if_pos (Classical.not_not.mp c)] at e
        unfold fauA at this
        rw [e] at this
        exact this (fun _ => C2)
    | succ m ih =>
      intro p s h1 hp F C1 C2 A e
      have e1 : h1 1 p = nI (xX x p) := by
        rw [F 1 (by omega) (by omega) (by omega)]
        exact C.Y p (by omega)
      rw [z17_23]
      simp only [z17_24, z17_25, z17_28, z17_29, z17_30, z17_31, z17_34, z17_35, z17_36, z17_37, pv_catN, pv_cat1, pv_cat2, pv_cat3, pv_catL, Option.toList, List.nil_append, List.cons_append, List.append_nil, pv_rfS, pn_i, pn_r, pn_n, pn_o, true_and, and_true, Nat.le_refl, and_self, true_implies, false_implies, not_true_eq_false, not_false_eq_true, pv_b0, pv_b01, pv_bn0, pv_b1, Bool.false_eq_true, Bool.true_eq_false, Bool.not_false, Bool.not_true, pv_bT, pv_bF, eq_self, true_or, or_true, nI_le' (show xN x < 2 ^ 31 by omega) (show p < 2 ^ 31 by omega), show (xN x ≤ p) = False from eq_false (by omega), G.t1, e76, nI_le' (show 76 < 2 ^ 31 by decide) (show p < 2 ^ 31 by omega), show (76 ≤ p) = False from eq_false (by omega), vp_nI (show p < 76 by omega) (show 76 < 2 ^ 31 by decide), nI_clamp (show p < 2 ^ 31 by omega), e1]
      rw [z17_38 (by simp [pv_cat, Value.category]) (by decide)]
      refine ⟨G.o2, m18 G C1 C2 A (hX p (by omega)) ⟨fun z h2 F2 => ?_, fun s' z h2 F2 D1 D2 => ?_⟩⟩
      · simp only [z17_41, z17_44, z17_45, pv_catN, pv_cat1, pv_cat2, pv_cat3, pv_catL, Option.toList, List.nil_append, List.cons_append, List.append_nil, pv_rfS, pn_i, pn_r, pn_n, pn_o, true_and, and_true, Nat.le_refl, and_self, true_implies, false_implies, not_true_eq_false, not_false_eq_true, pv_b0, pv_b01, pv_bn0, pv_b1, Bool.false_eq_true, Bool.true_eq_false, Bool.not_false, Bool.not_true, pv_bT, pv_bF, eq_self, true_or, or_true]
        have := hP h2 (F.tr F2)
        unfold fauA at this
        rw [e, rg_n z] at this
        exact this (fun z => by cases z)
      · simp only [z17_41, z17_46, z17_49, pv_catN, pv_cat1, pv_cat2, pv_cat3, pv_catL, Option.toList, List.nil_append, List.cons_append, List.append_nil, pv_rfS, pn_i, pn_r, pn_n, pn_o, true_and, and_true, Nat.le_refl, and_self, true_implies, false_implies, not_true_eq_false, not_false_eq_true, pv_b0, pv_b01, pv_bn0, pv_b1, Bool.false_eq_true, Bool.true_eq_false, Bool.not_false, Bool.not_true, pv_bT, pv_bF, eq_self, true_or, or_true, i10, nI_1]
        exact ih (p + 1) s' h2 (by omega) (F.tr F2) D1 D2 (tk_ok A z) (by rw [e, rg_s z])
  have k1 : ∀ (h : PvH) (k : Nat) (v : Int32), pv_st h 2 k v tt = h tt := fun h k v => st_o (by omega)
  simp only [e17, z17_0, z17_1, z17_2, z17_5, z17_6, z17_9, z17_10, z17_13, z17_14, z17_17, z17_18, z17_21, z17_22, pv_catN, pv_cat1, pv_cat2, pv_cat3, pv_catL, Option.toList, List.nil_append, List.cons_append, List.append_nil, pv_rfS, pn_i, pn_r, pn_n, pn_o, true_and, and_true, Nat.le_refl, and_self, true_implies, false_implies, not_true_eq_false, not_false_eq_true, pv_b0, pv_b01, pv_bn0, pv_b1, Bool.false_eq_true, Bool.true_eq_false, Bool.not_false, Bool.not_true, pv_bT, pv_bF, eq_self, true_or, or_true, G.o2, G.r2_0, T0]
  refine loop (xN x) 0 s0 _ (Nat.zero_add _) ((FRd.rf.s2.st ⟨Nat.le_refl _, by omega⟩).st ⟨Nat.le_refl _, by omega⟩) (cR1_mk (S := 0) rfl (by rw [st_o (by omega), st_o (by omega), st_at]; rfl) (fun z => absurd z (by decide)) (fun z => absurd z (by decide)) (fun z => absurd z (by decide)) (fun z => absurd z (by decide)) (fun z => absurd z (by decide)) (fun z => absurd z (by decide)) (fun z => absurd z (by decide))) ⟨by rw [st_k (by decide), st_at]; rfl, by rw [st_at]; rfl, fun f hf => absurd hf (Nat.not_lt_zero f), fun f hf => absurd hf (Nat.not_lt_zero f)⟩ s0_ok rfl
