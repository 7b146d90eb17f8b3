/-! THE READER of the class: a byte -/
theorem cR2.s2 {h : PvH} {tt : Nat} {s : RS} (C : cR2 h tt s) (ht : tt = 3 ∨ tt = 12) {k : Nat} {v : Int32} : cR2 (pv_st h 2 k v) tt s := C.fr (st_o (by decide)) (fun a h1 h2 => st_o (by omega))
theorem st_up {h : PvH} {o k : Nat} {v : Int32} {f : Nat → Nat} {w r : Nat} (hv : v = nI w) (hr : r ≠ k → h o r = nI (f r)) : pv_st h o k v o r = nI (updN f k w r) := by
  by_cases z : r = k
  · subst z; rw [st_at, updN_at, hv]
  · rw [st_k z, updN_ne z]; exact hr z
theorem okA.w9 {s : RS} (O : okA s) (h : 6 ≤ aS s ∧ aS s ≤ 9) : aw s ≤ 9 := (O.2.2.2.2.2.2.1 h).2
theorem m21 {d : Nat} {P : PvP} {g : PvG} {h : PvH} {rt tt : Nat} {q : Nat → Nat} {s : RS} (G : gC g rt tt q) (C1 : cR1 h s) (C : cR2 h tt s) (O : okA s) (hS : aS s = 1) {f : Nat} (hf : f ≤ 9) (hP : TP P g h tt (t1 s f)) : pv_run (d + 1) 21 [.ref 2, .int (nI f)] g h P := by
  obtain ⟨T0, T1, T3, T4, T5, T6, T7, T8, u1, u2, u3, u4, u5, u6, u7⟩ := G.Tt
  have ht := G.t2
  have hR : aR s = 0 := O.2.2.2.2.2.2.2.2.2.2.2.2.2.1 (by omega)
  have e2 : (nI f < 2) = (f < 2) := nI_lt' (b := 2) (by omega) (by decide)
  have e5 : (nI f ≤ 5) = (f ≤ 5) := nI_le' (b := 5) (by omega) (by decide)
  have no : ¬ (2 ≤ f ∧ f ≤ 5) → P (some (.int 0)) g h := fun c => hP.1 (by unfold t1; rw [if_neg c]) h FRd.rf
  simp only [e21, z21_0, z21_1, z21_2, z21_5, z21_6, z21_7, z21_10, z21_11, z21_12, z21_13, z21_16, z21_17, z21_20, z21_21, z21_22, z21_25, z21_26, z21_27, z21_30, z21_31, pv_catN, pv_cat1, pv_cat2, pv_cat3, pv_catL, Option.toList, List.nil_append, List.cons_append, List.append_nil, pv_rfS, pn_i, pn_r, pn_n, pn_o, true_and, and_true, Nat.le_refl, and_self, true_implies, false_implies, not_true_eq_false, not_false_eq_true, pv_b0, pv_b01, pv_bn0, pv_b1, Bool.false_eq_true, Bool.true_eq_false, Bool.not_false, Bool.not_true, pv_bT, pv_bF, eq_self, true_or, or_true, e2, e5, G.o2, G.r2_0, T0]
  refine ⟨fun c => no (by omega), fun c => ⟨fun c2 => ?_, fun c2 => no (by omega)⟩⟩
  have e : t1 s f = some (2, 0, aT s, aw s, av s, aa s, ak s, ai s, f, aB s, aM s, aR s, aW s, aV s, aA s, aK s, aG s, aC s) := by unfold t1; rw [if_pos (by omega)]
  refine hP.2 _ e _ ((FRd.rf.st ⟨Nat.le_refl _, by omega⟩).s2.s2) (cR1_mk (S := 2) rfl (by rw [st_at]; rfl) (fun _ => by rw [st_k (by decide), st_at]; rfl) (fun z => absurd z (by decide)) (fun z => absurd z (by decide)) (fun z => absurd z (by decide)) (fun z => absurd z (by decide)) (fun z => absurd z (by decide)) (fun z => absurd z (by decide))) ⟨by rw [st_o (by omega), st_o (by omega), st_at]; rfl, by rw [st_o (by omega), st_o (by omega), st_k (by decide)]; exact C.2.1, fun f hf => absurd hf (Nat.not_lt_zero f), fun r hr => ?_⟩
  have hr : r < aR s := hr
  omega
theorem m22 {d : Nat} {P : PvP} {g : PvG} {h : PvH} {rt tt : Nat} {q : Nat → Nat} {s : RS} (G : gC g rt tt q) (C1 : cR1 h s) (C : cR2 h tt s) (O : okA s) (hS : aS s = 2) {f : Nat} (hP : TP P g h tt (t2 s f)) : pv_run (d + 1) 22 [.ref 2, .int (nI f)] g h P := by
  have ht := G.t2
  have e : t2 s f = some (3, aL s, f, aw s, av s, aa s, ak s, ai s, aF s, aB s, aM s, aR s, aW s, aV s, aA s, aK s, aG s, aC s) := rfl
  simp only [e22, z22_0, z22_1, z22_2, z22_5, z22_6, z22_7, z22_10, z22_11, pv_catN, pv_cat1, pv_cat2, pv_cat3, pv_catL, Option.toList, List.nil_append, List.cons_append, List.append_nil, pv_rfS, pn_i, pn_r, pn_n, pn_o, true_and, and_true, Nat.le_refl, and_self, true_implies, false_implies, not_true_eq_false, not_false_eq_true, pv_b0, pv_b01, pv_bn0, pv_b1, Bool.false_eq_true, Bool.true_eq_false, Bool.not_false, Bool.not_true, pv_bT, pv_bF, eq_self, true_or, or_true, G.o2]
  exact hP.2 _ e _ FRd.rf.s2.s2 (cR1_mk (S := 3) rfl (by rw [st_at]; rfl) (fun _ => by rw [st_k (by decide), st_k (by decide)]; exact C1.2.1 (by omega)) (fun _ => by rw [st_k (by decide), st_at]; rfl) (fun z => absurd z (by decide)) (fun z => absurd z (by decide)) (fun z => absurd z (by decide)) (fun z => absurd z (by decide)) (fun z => absurd z (by decide))) ((C.s2 ht).s2 ht)
theorem m25 {d : Nat} {P : PvP} {g : PvG} {h : PvH} {rt tt : Nat} {q : Nat → Nat} {s : RS} (G : gC g rt tt q) (C1 : cR1 h s) (C : cR2 h tt s) (O : okA s) (hS : aS s = 6) {f : Nat} (hP : TP P g h tt (t6 s f)) : pv_run (d + 1) 25 [.ref 2, .int (nI f)] g h P := by
  have ht := G.t2
  have e : t6 s f = some (7, aL s, aT s, aw s, f, aa s, ak s, ai s, aF s, aB s, aM s, aR s, aW s, aV s, aA s, aK s, aG s, aC s) := rfl
  simp only [e25, z25_0, z25_1, z25_2, z25_5, z25_6, z25_8, z25_11, z25_12, pv_catN, pv_cat1, pv_cat2, pv_cat3, pv_catL, Option.toList, List.nil_append, List.cons_append, List.append_nil, pv_rfS, pn_i, pn_r, pn_n, pn_o, true_and, and_true, Nat.le_refl, and_self, true_implies, false_implies, not_true_eq_false, not_false_eq_true, pv_b0, pv_b01, pv_bn0, pv_b1, Bool.false_eq_true, Bool.true_eq_false, Bool.not_false, Bool.not_true, pv_bT, pv_bF, eq_self, true_or, or_true, G.o2]
  exact hP.2 _ e _ FRd.rf.s2.s2 (cR1_mk (S := 7) rfl (by rw [st_at]; rfl) (fun _ => by rw [st_k (by decide), st_k (by decide)]; exact C1.2.1 (by omega)) (fun z => absurd z (by decide)) (fun _ => by rw [st_k (by decide), st_k (by decide)]; exact C1.2.2.2.1 (by omega)) (fun _ => by rw [st_k (by decide), st_at]; rfl) (fun z => absurd z (by decide)) (fun z => absurd z (by decide)) (fun z => absurd z (by decide))) ((C.s2 ht).s2 ht)
theorem m26 {d : Nat} {P : PvP} {g : PvG} {h : PvH} {rt tt : Nat} {q : Nat → Nat} {s : RS} (G : gC g rt tt q) (C1 : cR1 h s) (C : cR2 h tt s) (O : okA s) (hS : aS s = 7) {f : Nat} (hP : TP P g h tt (t7 s f)) : pv_run (d + 1) 26 [.ref 2, .int (nI f)] g h P := by
  have ht := G.t2
  have e : t7 s f = some (8, aL s, aT s, aw s, av s, f, ak s, ai s, aF s, aB s, aM s, aR s, aW s, aV s, aA s, aK s, aG s, aC s) := rfl
  simp only [e26, z26_0, z26_1, z26_2, z26_5, z26_6, z26_8, z26_11, z26_12, pv_catN, pv_cat1, pv_cat2, pv_cat3, pv_catL, Option.toList, List.nil_append, List.cons_append, List.append_nil, pv_rfS, pn_i, pn_r, pn_n, pn_o, true_and, and_true, Nat.le_refl, and_self, true_implies, false_implies, not_true_eq_false, not_false_eq_true, pv_b0, pv_b01, pv_bn0, pv_b1, Bool.false_eq_true, Bool.true_eq_false, Bool.not_false, Bool.not_true, pv_bT, pv_bF, eq_self, true_or, or_true, G.o2]
  exact hP.2 _ e _ FRd.rf.s2.s2 (cR1_mk (S := 8) rfl (by rw [st_at]; rfl) (fun _ => by rw [st_k (by decide), st_k (by decide)]; exact C1.2.1 (by omega)) (fun z => absurd z (by decide)) (fun _ => by rw [st_k (by decide), st_k (by decide)]; exact C1.2.2.2.1 (by omega)) (fun _ => by rw [st_k (by decide), st_k (by decide)]; exact C1.2.2.2.2.1 (by omega)) (fun _ => by rw [st_k (by decide), st_at]; rfl) (fun z => absurd z (by decide)) (fun z => absurd z (by decide))) ((C.s2 ht).s2 ht)
theorem m24 {d : Nat} {P : PvP} {g : PvG} {h : PvH} {rt tt : Nat} {q : Nat → Nat} {s : RS} (G : gC g rt tt q) (C1 : cR1 h s) (C : cR2 h tt s) (O : okA s) (hS : aS s = 5) {f : Nat} (hf : f ≤ 9) (hP : TP P g h tt (t5 s f)) : pv_run (d + 2) 24 [.ref 2, .int (nI f)] g h P := by
  have ht := G.t2
  have e1 : (nI f < 1) = (f < 1) := nI_lt' (b := 1) (by omega) (by decide)
  have no : ¬ (decide (1 ≤ f) && aH s f) = true → ∀ h', FRd h h' tt → P (some (.int 0)) g h' := fun c => hP.1 (by unfold t5; rw [if_neg c])
  simp only [e24, z24_0, z24_1, z24_2, z24_5, z24_6, z24_8, z24_11, z24_12, z24_13, z24_16, z24_17, z24_28, z24_29, pv_catN, pv_cat1, pv_cat2, pv_cat3, pv_catL, Option.toList, List.nil_append, List.cons_append, List.append_nil, pv_rfS, pn_i, pn_r, pn_n, pn_o, true_and, and_true, Nat.le_refl, and_self, true_implies, false_implies, not_true_eq_false, not_false_eq_true, pv_b0, pv_b01, pv_bn0, pv_b1, Bool.false_eq_true, Bool.true_eq_false, Bool.not_false, Bool.not_true, pv_bT, pv_bF, eq_self, true_or, or_true, G.o2, e1]
  refine ⟨fun c => no (by rw [decide_eq_false (by omega)]; simp) _ FRd.rf.s2.s2, fun c => ?_⟩
  rw [z24_18 (by simp [pv_cat, Value.category]) (by decide)]
  refine ⟨G.o2, m31 G ((C.s2 ht).s2 ht) O (by omega) hf ?_⟩
  simp only [z24_21, z24_24, z24_25, z24_28, z24_29, pv_catN, pv_cat1, pv_cat2, pv_cat3, pv_catL, Option.toList, List.nil_append, List.cons_append, List.append_nil, pv_rfS, pn_i, pn_r, pn_n, pn_o, true_and, and_true, Nat.le_refl, and_self, true_implies, false_implies, not_true_eq_false, not_false_eq_true, pv_b0, pv_b01, pv_bn0, pv_b1, Bool.false_eq_true, Bool.true_eq_false, Bool.not_false, Bool.not_true, pv_bT, pv_bF, eq_self, true_or, or_true]
  refine br (fun c2 => no (by rw [c2]; simp) _ FRd.rf.s2.s2) (fun c2 => ?_)
  have e : t5 s f = some (6, aL s, aT s, f, av s, aa s, ak s, ai s, aF s, aB s, aM s, aR s, aW s, aV s, aA s, aK s, aG s, aC s) := by unfold t5; rw [if_pos (by rw [c2, decide_eq_true (show 1 ≤ f by omega)]; rfl)]
  exact hP.2 _ e _ FRd.rf.s2.s2 (cR1_mk (S := 6) rfl (by rw [st_at]; rfl) (fun _ => by rw [st_k (by decide), st_k (by decide)]; exact C1.2.1 (by omega)) (fun z => absurd z (by decide)) (fun _ => by rw [st_k (by decide), st_at]; rfl) (fun z => absurd z (by decide)) (fun z => absurd z (by decide)) (fun z => absurd z (by decide)) (fun z => absurd z (by decide))) ((C.s2 ht).s2 ht)
theorem m27 {d : Nat} {P : PvP} {g : PvG} {h : PvH} {rt tt : Nat} {q : Nat → Nat} {s : RS} (G : gC g rt tt q) (C1 : cR1 h s) (C : cR2 h tt s) (O : okA s) (hS : aS s = 8) {f : Nat} (hf : f ≤ 9) (hP : TP P g h tt (t8 s f)) : pv_run (d + 2) 27 [.ref 2, .int (nI f)] g h P := by
  have ht := G.t2
  have hw := O.w9 (by omega)
  have e1 : (nI f < 3) = (f < 3) := nI_lt' (b := 3) (by omega) (by decide)
  have e3 : (nI f = 3) = (f = 3) := nI_eq' (b := 3) (by omega) (by decide)
  have C2 : cR2 (pv_st (pv_st h 2 8 (nI f)) 2 1 9) tt s := (C.s2 ht).s2 ht
  have no : ¬ (decide (f < 3) || (decide (f = 3) && (decide (0 < aR s) && aBe s (aG s (aR s - 1))))) = true → ∀ h', FRd h h' tt → P (some (.int 0)) g h' := fun c => hP.1 (by unfold t8; rw [if_neg c])
  have yes : (decide (f < 3) || (decide (f = 3) && (decide (0 < aR s) && aBe s (aG s (aR s - 1))))) = true → P (some (.int 1)) g (pv_st (pv_st h 2 8 (nI f)) 2 1 9) := fun c => by
    have e : t8 s f = some (9, aL s, aT s, aw s, av s, aa s, f, ai s, aF s, aB s, aM s, aR s, aW s, aV s, aA s, aK s, aG s, aC s) := by unfold t8; rw [if_pos c]
    exact hP.2 _ e _ FRd.rf.s2.s2 (cR1_mk (S := 9) rfl (by rw [st_at]; rfl) (fun _ => by rw [st_k (by decide), st_k (by decide)]; exact C1.2.1 (by omega)) (fun z => absurd z (by decide)) (fun _ => by rw [st_k (by decide), st_k (by decide)]; exact C1.2.2.2.1 (by omega)) (fun _ => by rw [st_k (by decide), st_k (by decide)]; exact C1.2.2.2.2.1 (by omega)) (fun _ => by rw [st_k (by decide), st_k (by decide)]; exact C1.2.2.2.2.2.1 (by omega)) (fun _ => by rw [st_k (by decide), st_at]; rfl) (fun z => absurd z (by decide))) C2
  simp only [e27, z27_0, z27_1, z27_2, z27_5, z27_6, z27_8, z27_11, z27_12, z27_13, z27_16, z27_17, z27_18, z27_21, z27_22, z27_32, z27_33, z27_36, z27_37, pv_catN, pv_cat1, pv_cat2, pv_cat3, pv_catL, Option.toList, List.nil_append, List.cons_append, List.append_nil, pv_rfS, pn_i, pn_r, pn_n, pn_o, true_and, and_true, Nat.le_refl, and_self, true_implies, false_implies, not_true_eq_false, not_false_eq_true, pv_b0, pv_b01, pv_bn0, pv_b1, Bool.false_eq_true, Bool.true_eq_false, Bool.not_false, Bool.not_true, pv_bT, pv_bF, eq_self, true_or, or_true, G.o2, e1, e3]
  refine ⟨fun c => yes (by rw [decide_eq_true c]; rfl), fun c => ⟨fun c2 => no (by rw [decide_eq_false c, decide_eq_false c2]; simp) _ FRd.rf.s2.s2, fun c2 => ?_⟩⟩
  have c2 := Classical.not_not.mp c2
  rw [z27_23 (by simp [pv_cat, Value.category]) (by decide)]
  refine ⟨G.o2, m32 G C2 O ?_⟩
  simp only [Option.toList, List.cons_append, List.nil_append]
  by_cases cR : 0 < aR s
  · rw [if_pos cR]
    rw [z27_26 (by simp [pv_cat, Value.category]) (by decide)]
    have hg := (O.b.2.1 (aR s - 1) (by omega)).2.2.2.2.2.1
    have hF := (O.F (by omega)).2
    refine ⟨G.o2, m33 G (by rw [st_k (by decide), st_k (by decide)]; exact C1.2.2.2.1 (by omega)) hw C2 O (by omega) (by omega) ?_⟩
    simp only [z27_29, z27_32, z27_33, z27_36, z27_37, pv_catN, pv_cat1, pv_cat2, pv_cat3, pv_catL, Option.toList, List.nil_append, List.cons_append, List.append_nil, pv_rfS, pn_i, pn_r, pn_n, pn_o, true_and, and_true, Nat.le_refl, and_self, true_implies, false_implies, not_true_eq_false, not_false_eq_true, pv_b0, pv_b01, pv_bn0, pv_b1, Bool.false_eq_true, Bool.true_eq_false, Bool.not_false, Bool.not_true, pv_bT, pv_bF, eq_self, true_or, or_true]
    refine br (fun c3 => no (by rw [c3, decide_eq_false c]; simp) _ FRd.rf.s2.s2) (fun c3 => yes (by rw [c3, decide_eq_true c2, decide_eq_true cR]; simp))
  · rw [if_neg cR]
    rw [z27_26 (by simp [pv_cat, Value.category]) (by decide)]
    refine ⟨G.o2, m33n ?_⟩
    simp only [z27_29, z27_32, z27_33, z27_36, z27_37, pv_catN, pv_cat1, pv_cat2, pv_cat3, pv_catL, Option.toList, List.nil_append, List.cons_append, List.append_nil, pv_rfS, pn_i, pn_r, pn_n, pn_o, true_and, and_true, Nat.le_refl, and_self, true_implies, false_implies, not_true_eq_false, not_false_eq_true, pv_b0, pv_b01, pv_bn0, pv_b1, Bool.false_eq_true, Bool.true_eq_false, Bool.not_false, Bool.not_true, pv_bT, pv_bF, eq_self, true_or, or_true]
    exact no (by rw [decide_eq_false cR, decide_eq_false c]; simp) _ FRd.rf.s2.s2
theorem m29 {d : Nat} {P : PvP} {g : PvG} {h : PvH} {rt tt : Nat} {q : Nat → Nat} {s : RS} (G : gC g rt tt q) (C1 : cR1 h s) (C : cR2 h tt s) (O : okA s) (hS : aS s = 10) {f : Nat} (hf : f ≤ 9) (hP : TP P g h tt (t10 s f)) : pv_run (d + 3) 29 [.ref 2, .int (nI f)] g h P := by
  have ht := G.t2
  have C2 : cR2 (pv_st (pv_st h 2 9 (nI f)) 2 1 11) tt s := (C.s2 ht).s2 ht
  simp only [e29, z29_0, z29_1, z29_2, z29_5, z29_6, z29_8, z29_11, z29_12, pv_catN, pv_cat1, pv_cat2, pv_cat3, pv_catL, Option.toList, List.nil_append, List.cons_append, List.append_nil, pv_rfS, pn_i, pn_r, pn_n, pn_o, true_and, and_true, Nat.le_refl, and_self, true_implies, false_implies, not_true_eq_false, not_false_eq_true, pv_b0, pv_b01, pv_bn0, pv_b1, Bool.false_eq_true, Bool.true_eq_false, Bool.not_false, Bool.not_true, pv_bT, pv_bF, eq_self, true_or, or_true, G.o2]
  rw [z29_13 (by simp [pv_cat, Value.category]) (by decide)]
  refine ⟨G.o2, m35 G C2 O (by omega) ?_⟩
  simp only [z29_16, pv_catN, pv_cat1, pv_cat2, pv_cat3, pv_catL, Option.toList, List.nil_append, List.cons_append, List.append_nil, pv_rfS, pn_i, pn_r, pn_n, pn_o, true_and, and_true, Nat.le_refl, and_self, true_implies, false_implies, not_true_eq_false, not_false_eq_true, pv_b0, pv_b01, pv_bn0, pv_b1, Bool.false_eq_true, Bool.true_eq_false, Bool.not_false, Bool.not_true, pv_bT, pv_bF, eq_self, true_or, or_true]
  refine ⟨by cases aCan s f <;> simp, ?_⟩
  cases c : aCan s f with
  | false => exact hP.1 (by unfold t10; rw [if_neg (by rw [c]; exact Bool.false_ne_true)]) _ FRd.rf.s2.s2
  | true =>
    have e : t10 s f = some (11, aL s, aT s, aw s, av s, aa s, ak s, f, aF s, aB s, aM s, aR s, aW s, aV s, aA s, aK s, aG s, aC s) := by unfold t10; rw [if_pos c]
    exact hP.2 _ e _ FRd.rf.s2.s2 (cR1_mk (S := 11) rfl (by rw [st_at]; rfl) (fun _ => by rw [st_k (by decide), st_k (by decide)]; exact C1.2.1 (by omega)) (fun z => absurd z (by decide)) (fun z => absurd z (by decide)) (fun z => absurd z (by decide)) (fun z => absurd z (by decide)) (fun z => absurd z (by decide)) (fun _ => by rw [st_k (by decide), st_at]; rfl)) C2
theorem m30 {d : Nat} {P : PvP} {g : PvG} {h : PvH} {rt tt : Nat} {q : Nat → Nat} {s : RS} (G : gC g rt tt q) (C1 : cR1 h s) (C : cR2 h tt s) (O : okA s) (hS : aS s = 11) {f : Nat} (hf : f ≤ 9) (hP : TP P g h tt (t11 s f)) : pv_run (d + 3) 30 [.ref 2, .int (nI f)] g h P := by
  obtain ⟨T0, T1, T3, T4, T5, T6, T7, T8, u1, u2, u3, u4, u5, u6, u7⟩ := G.Tt
  have ht := G.t2
  have hR := O.R
  have hi9 : ai s ≤ 9 := O.2.2.2.2.2.2.2.2.2.2.1 hS
  have hi := C1.2.2.2.2.2.2.2 hS
  have no : ¬ (aCan s (ai s) && (decide (f < aR s) && aCit s (ai s) f)) = true → P (some (.int 0)) g h := fun c => hP.1 (by unfold t11; rw [if_neg c]) h FRd.rf
  simp only [e30, z30_0, z30_1, z30_2, pv_catN, pv_cat1, pv_cat2, pv_cat3, pv_catL, Option.toList, List.nil_append, List.cons_append, List.append_nil, pv_rfS, pn_i, pn_r, pn_n, pn_o, true_and, and_true, Nat.le_refl, and_self, true_implies, false_implies, not_true_eq_false, not_false_eq_true, pv_b0, pv_b01, pv_bn0, pv_b1, Bool.false_eq_true, Bool.true_eq_false, Bool.not_false, Bool.not_true, pv_bT, pv_bF, eq_self, true_or, or_true, G.o2, hi]
  rw [z30_5 (by simp [pv_cat, Value.category]) (by decide)]
  refine ⟨G.o2, m35 G C O (by omega) ?_⟩
  simp only [z30_8, z30_11, z30_12, z30_13, z30_26, z30_27, pv_catN, pv_cat1, pv_cat2, pv_cat3, pv_catL, Option.toList, List.nil_append, List.cons_append, List.append_nil, pv_rfS, pn_i, pn_r, pn_n, pn_o, true_and, and_true, Nat.le_refl, and_self, true_implies, false_implies, not_true_eq_false, not_false_eq_true, pv_b0, pv_b01, pv_bn0, pv_b1, Bool.false_eq_true, Bool.true_eq_false, Bool.not_false, Bool.not_true, pv_bT, pv_bF, eq_self, true_or, or_true, G.o2, hi]
  refine br (fun c => no (by rw [c]; simp)) (fun c => ?_)
  have hiR : ai s < aR s := of_decide_eq_true (Bool.and_eq_true_iff.mp c).1
  have hm : mk (aCit s (ai s)) (aR s) < 256 := p8 (mk_lt _ _) hR
  have hb : (mk (aCit s (ai s)) (aR s)).testBit f = (decide (f < aR s) && aCit s (ai s) f) := mk_bit _ _ _
  simp only [z30_16, z30_19, z30_20, z30_23, z30_26, z30_27, pv_catN, pv_cat1, pv_cat2, pv_cat3, pv_catL, Option.toList, List.nil_append, List.cons_append, List.append_nil, pv_rfS, pn_i, pn_r, pn_n, pn_o, true_and, and_true, Nat.le_refl, and_self, true_implies, false_implies, not_true_eq_false, not_false_eq_true, pv_b0, pv_b01, pv_bn0, pv_b1, Bool.false_eq_true, Bool.true_eq_false, Bool.not_false, Bool.not_true, pv_bT, pv_bF, eq_self, true_or, or_true, G.o2, m36 G C O hiR, m98 (show mk (aCit s (ai s)) (aR s) < 2 ^ 31 by omega) (show f < 32 by omega), hb]
  refine ⟨fun c2 => ?_, fun c2 => no (by rw [Classical.not_not.mp c2]; simp)⟩
  have c2 : (decide (f < aR s) && aCit s (ai s) f) = true := by
    cases z : (decide (f < aR s) && aCit s (ai s) f) with
    | false => exact absurd z c2
    | true => rfl
  have hfR : f < aR s := of_decide_eq_true (Bool.and_eq_true_iff.mp c2).1
  have ec := (C.2.2.2 (ai s) hiR).2.2.2.2.2
  simp only [z30_28, z30_29, z30_32, z30_35, z30_36, z30_39, z30_40, z30_41, z30_42, z30_43, z30_44, z30_45, z30_46, z30_47, z30_48, z30_51, z30_52, pv_catN, pv_cat1, pv_cat2, pv_cat3, pv_catL, Option.toList, List.nil_append, List.cons_append, List.append_nil, pv_rfS, pn_i, pn_r, pn_n, pn_o, true_and, and_true, Nat.le_refl, and_self, true_implies, false_implies, not_true_eq_false, not_false_eq_true, pv_b0, pv_b01, pv_bn0, pv_b1, Bool.false_eq_true, Bool.true_eq_false, Bool.not_false, Bool.not_true, pv_bT, pv_bF, eq_self, true_or, or_true, G.o2, G.r2_0, T0, T8, u7, hi, vp_nI (show ai s < 8 by omega) (show 8 < 2 ^ 31 by decide), nI_clamp (show ai s < 2 ^ 31 by omega), ec, shlN (show f < 31 by omega), fa_or]
  have e : t11 s f = some (4, aL s, aT s, aw s, av s, aa s, ak s, ai s, aF s, aB s, aM s, aR s, aW s, aV s, aA s, aK s, aG s, updN (aC s) (ai s) (aC s (ai s) ||| 2 ^ f)) := by unfold t11; rw [if_pos (by rw [c, c2]; rfl)]
  refine hP.2 _ e _ ((FRd.rf.st ⟨by omega, by omega⟩).s2) (cR1_mk (S := 4) rfl (by rw [st_at]; rfl) (fun _ => by rw [st_k (by decide), st_o (by omega)]; exact C1.2.1 (by omega)) (fun z => absurd z (by decide)) (fun z => absurd z (by decide)) (fun z => absurd z (by decide)) (fun z => absurd z (by decide)) (fun z => absurd z (by decide)) (fun z => absurd z (by decide))) ⟨by rw [st_o (by omega), st_o (by omega)]; exact C.1, by rw [st_o (by omega), st_o (by omega)]; exact C.2.1, fun f hf => by rw [st_o (by omega), st_o (by omega), st_o (by omega), st_o (by omega)]; exact C.2.2.1 f hf, fun r hr => ?_⟩
  obtain ⟨x2, x3, x4, x5, x6, x7⟩ := C.2.2.2 r hr
  refine ⟨by rw [st_o (by omega), st_o (by omega)]; exact x2, by rw [st_o (by omega), st_o (by omega)]; exact x3, by rw [st_o (by omega), st_o (by omega)]; exact x4, by rw [st_o (by omega), st_o (by omega)]; exact x5, by rw [st_o (by omega), st_o (by omega)]; exact x6, ?_⟩
  rw [st_o (by omega)]
  exact st_up rfl (fun _ => x7)
theorem m23 {d : Nat} {P : PvP} {g : PvG} {h : PvH} {rt tt : Nat} {q : Nat → Nat} {s : RS} (G : gC g rt tt q) (C1 : cR1 h s) (C : cR2 h tt s) (O : okA s) (hS : aS s = 3) {f : Nat} (hf : f ≤ 9) (hP : TP P g h tt (t3 s f)) : pv_run (d + 1) 23 [.ref 2, .int (nI f)] g h P := by
  obtain ⟨T0, T1, T3, T4, T5, T6, T7, T8, u1, u2, u3, u4, u5, u6, u7⟩ := G.Tt
  have ht := G.t2
  have hF := (O.F (by omega)).2
  have hL : aL s < aF s := O.2.2.2.1 (by omega)
  have hT : aT s ≤ 9 := O.2.2.2.2.2.1 hS
  have hR : aR s = 0 := O.2.2.2.2.2.2.2.2.2.2.2.2.2.1 (by omega)
  have eL := C1.2.1 (by omega)
  have eT := C1.2.2.1 hS
  have e5 : (nI (aL s) < 5) = True := eq_true (by rw [show (5 : Int32) = nI 5 from rfl, nI_lt' (by omega) (by decide)]; omega)
  have e10 : (10 : Int32) * nI (aT s) = nI (10 * aT s) := pk_mul 10 _
  have a1 : ∀ (h : PvH) (k : Nat) (v : Int32), pv_st h (tt + 1) k v 2 = h 2 := fun h k v => st_o (by omega)
  have a2 : ∀ (h : PvH) (k : Nat) (v : Int32), pv_st h 11 k v 2 = h 2 := fun h k v => st_o (by decide)
  have a3 : ∀ (h : PvH) (k : Nat) (v : Int32), pv_st h 2 k v tt = h tt := fun h k v => st_o (by omega)
  have a4 : ∀ (h : PvH) (k : Nat) (v : Int32), pv_st h 11 k v tt = h tt := fun h k v => st_o (by omega)
  have a5 : ∀ (h : PvH) (k : Nat) (v : Int32), pv_st h (tt + 1) k v tt = h tt := fun h k v => st_o (by omega)
  simp only [e23, z23_0, z23_1, z23_4, z23_7, z23_8, z23_11, z23_12, z23_15, z23_16, z23_17, z23_18, z23_21, z23_24, z23_25, z23_28, z23_30, z23_31, z23_34, z23_35, z23_36, z23_37, z23_38, z23_39, z23_42, z23_43, z23_46, z23_47, z23_50, z23_53, z23_54, z23_57, z23_58, z23_59, z23_60, y23_60, z23_61, z23_64, z23_65, z23_66, z23_69, z23_70, z23_71, z23_74, z23_75, z23_78, z23_81, z23_84, z23_85, z23_88, z23_89, z23_92, z23_93, pv_catN, pv_cat1, pv_cat2, pv_cat3, pv_catL, Option.toList, List.nil_append, List.cons_append, List.append_nil, pv_rfS, pn_i, pn_r, pn_n, pn_o, true_and, and_true, Nat.le_refl, and_self, true_implies, false_implies, not_true_eq_false, not_false_eq_true, pv_b0, pv_b01, pv_bn0, pv_b1, Bool.false_eq_true, Bool.true_eq_false, Bool.not_false, Bool.not_true, pv_bT, pv_bF, eq_self, true_or, or_true, G.o2, G.r2_0, G.r2_4, T0, T1, u1, G.t11, eL, eT, lt0N (show aL s < 2 ^ 30 by omega), e5, e10, nI_add, nI_1, vp_nI (show aL s < 5 by omega) (show 5 < 2 ^ 31 by decide), nI_clamp (show aL s < 2 ^ 31 by omega), a1, a2, a3, a4, a5, st_at, C.1, nI_le' (show aF s < 2 ^ 31 by omega) (show aL s + 1 < 2 ^ 31 by omega)]
  have fin : ∀ S : Nat, (S = 2 ∨ S = 4) → t3 s f = some (S, aL s + 1, aT s, aw s, av s, aa s, ak s, ai s, aF s, updN (aB s) (aL s) (10 * aT s + f), updN (aM s) (aL s) (10 * aT s + f), aR s, aW s, aV s, aA s, aK s, aG s, aC s) → P (some (.int 1)) g (pv_st (pv_st (pv_st (pv_st h (tt + 1) (aL s) (nI (10 * aT s + f))) 11 (aL s) (nI (10 * aT s + f))) 2 2 (nI (aL s + 1))) 2 1 (nI S)) := fun S hS e => by
    refine hP.2 _ e _ (((FRd.rf.st ⟨by omega, by omega⟩).s11).s2.s2) (cR1_mk (S := S) rfl st_at (fun _ => by rw [st_k (by decide), st_at]; rfl) (fun z => absurd z (by omega)) (fun z => absurd z (by omega)) (fun z => absurd z (by omega)) (fun z => absurd z (by omega)) (fun z => absurd z (by omega)) (fun z => absurd z (by omega))) ⟨by rw [a3, a3, a4, a5]; exact C.1, by rw [a3, a3, a4, a5]; exact C.2.1, fun f' hf' => ⟨?_, ?_⟩, fun r hr => ?_⟩
    · have hf' : f' < aL s + 1 := hf'
      rw [st_o (by decide), st_o (by decide)]
      refine st_up rfl (fun z => ?_)
      rw [st_o (by omega)]
      exact (C.2.2.1 f' (by omega)).1
    · have hf' : f' < aL s + 1 := hf'
      rw [st_o (by omega), st_o (by omega), st_o (by omega)]
      exact st_up rfl (fun z => (C.2.2.1 f' (by omega)).2)
    · have hr : r < aR s := hr
      omega
  refine ⟨fun c => ?_, fun c => ?_⟩
  · exact fin 4 (Or.inr rfl) (by unfold t3; rw [if_neg (by omega)])
  · exact fin 2 (Or.inl rfl) (by unfold t3; rw [if_pos (by omega)])
theorem m28 {d : Nat} {P : PvP} {g : PvG} {h : PvH} {rt tt : Nat} {q : Nat → Nat} {s : RS} (G : gC g rt tt q) (C1 : cR1 h s) (C : cR2 h tt s) (O : okA s) (hS : aS s = 9) {f : Nat} (hf : f ≤ 9) (hP : TP P g h tt (t9 s f)) : pv_run (d + 2) 28 [.ref 2, .int (nI f)] g h P := by
  obtain ⟨T0, T1, T3, T4, T5, T6, T7, T8, u1, u2, u3, u4, u5, u6, u7⟩ := G.Tt
  have ht := G.t2
  have hF := (O.F (by omega)).2
  have hR : aR s < 8 := O.2.2.2.2.2.2.2.2.2.2.2.2.1 (by omega)
  have hk3 : ak s ≤ 3 := O.2.2.2.2.2.2.2.2.2.1 hS
  have hw := O.w9 (by omega)
  have ew := C1.2.2.2.1 (by omega)
  have ev := C1.2.2.2.2.1 (by omega)
  have ea := C1.2.2.2.2.2.1 (by omega)
  have ek := C1.2.2.2.2.2.2.1 hS
  have k3 : (nI (ak s) = 3) = (ak s = 3) := nI_eq' (b := 3) (by omega) (by decide)
  have no : ¬ (aBe s f && (!decide (ak s = 3) || aPl s f)) = true → P (some (.int 0)) g h := fun c => hP.1 (by unfold t9; rw [if_neg c]) h FRd.rf
  have b0_2 : ∀ (h : PvH) (k : Nat) (v : Int32), pv_st h tt k v 2 = h 2 := fun h k v => st_o (by omega)
  have b0_11 : ∀ (h : PvH) (k : Nat) (v : Int32), pv_st h tt k v 11 = h 11 := fun h k v => st_o (by omega)
  have b2_2 : ∀ (h : PvH) (k : Nat) (v : Int32), pv_st h (tt + 2) k v 2 = h 2 := fun h k v => st_o (by omega)
  have b2_11 : ∀ (h : PvH) (k : Nat) (v : Int32), pv_st h (tt + 2) k v 11 = h 11 := fun h k v => st_o (by omega)
  have b3_2 : ∀ (h : PvH) (k : Nat) (v : Int32), pv_st h (tt + 3) k v 2 = h 2 := fun h k v => st_o (by omega)
  have b3_11 : ∀ (h : PvH) (k : Nat) (v : Int32), pv_st h (tt + 3) k v 11 = h 11 := fun h k v => st_o (by omega)
  have b4_2 : ∀ (h : PvH) (k : Nat) (v : Int32), pv_st h (tt + 4) k v 2 = h 2 := fun h k v => st_o (by omega)
  have b4_11 : ∀ (h : PvH) (k : Nat) (v : Int32), pv_st h (tt + 4) k v 11 = h 11 := fun h k v => st_o (by omega)
  have b5_2 : ∀ (h : PvH) (k : Nat) (v : Int32), pv_st h (tt + 5) k v 2 = h 2 := fun h k v => st_o (by omega)
  have b5_11 : ∀ (h : PvH) (k : Nat) (v : Int32), pv_st h (tt + 5) k v 11 = h 11 := fun h k v => st_o (by omega)
  have b6_2 : ∀ (h : PvH) (k : Nat) (v : Int32), pv_st h (tt + 6) k v 2 = h 2 := fun h k v => st_o (by omega)
  have b6_11 : ∀ (h : PvH) (k : Nat) (v : Int32), pv_st h (tt + 6) k v 11 = h 11 := fun h k v => st_o (by omega)
  have b7_2 : ∀ (h : PvH) (k : Nat) (v : Int32), pv_st h (tt + 7) k v 2 = h 2 := fun h k v => st_o (by omega)
  have b7_11 : ∀ (h : PvH) (k : Nat) (v : Int32), pv_st h (tt + 7) k v 11 = h 11 := fun h k v => st_o (by omega)
  have r8 : ((nI (aR s)) < 8) = True := eq_true (by rw [show (8 : Int32) = nI 8 from rfl, nI_lt' (by omega) (by decide)]; omega)
  have yes : (aBe s f && (!decide (ak s = 3) || aPl s f)) = true → pv_E (d + 1) 28 P 26 [some (.ref 2), some (.int (nI f)), none] [] 0 0 g h := fun c => by
    have c1 := Bool.and_eq_true_iff.mp (Bool.and_eq_true_iff.mp c).1
    have hfF : f < aF s := of_decide_eq_true c1.1
    have hwM : aw s ≤ aM s f := of_decide_eq_true c1.2
    have eM := (C.2.2.1 f (by rw [O.L (by omega)]; exact hfF)).1
    have es : nI (aM s f) - nI (aw s) = nI (aM s f - aw s) := pk_sub hwM
    simp only [z28_0, z28_1, z28_2, z28_5, z28_8, z28_9, z28_12, z28_13, z28_16, z28_17, z28_18, z28_21, z28_24, z28_25, z28_27, z28_30, z28_33, z28_34, z28_35, z28_37, z28_40, z28_41, z28_42, z28_43, z28_46, z28_49, z28_50, z28_51, z28_54, z28_55, z28_56, z28_59, z28_62, z28_63, z28_64, z28_67, z28_68, z28_69, z28_72, z28_75, z28_76, z28_77, z28_80, z28_81, z28_82, z28_85, z28_88, z28_89, z28_90, z28_93, z28_94, z28_95, z28_98, z28_101, z28_102, z28_103, z28_104, z28_105, z28_108, z28_111, z28_112, z28_113, z28_114, z28_115, z28_118, z28_119, z28_120, z28_121, z28_124, z28_125, z28_128, z28_129, z28_130, z28_131, z28_132, z28_135, z28_136, z28_137, z28_138, z28_139, z28_142, z28_143, z28_26, pv_catN, pv_cat1, pv_cat2, pv_cat3, pv_catL, Option.toList, List.nil_append, List.cons_append, List.append_nil, pv_rfS, pn_i, pn_r, pn_n, pn_o, true_and, and_true, Nat.le_refl, and_self, true_implies, false_implies, not_true_eq_false, not_false_eq_true, pv_b0, pv_b01, pv_bn0, pv_b1, Bool.false_eq_true, Bool.true_eq_false, Bool.not_false, Bool.not_true, pv_bT, pv_bF, eq_self, true_or, or_true, G.o2, G.r2_0, G.r2_4, T0, T3, T4, T5, T6, T7, T8, u2, u3, u4, u5, u6, u7, G.t11, C.2.1, r8, b0_2, b0_11, b2_2, b2_11, b3_2, b3_11, b4_2, b4_11, b5_2, b5_11, b6_2, b6_11, b7_2, b7_11, ew, ev, ea, ek, eM, es, vp_nI (show aR s < 8 by omega) (show 8 < 2 ^ 31 by decide), nI_clamp (show aR s < 2 ^ 31 by omega), vp_nI (show f < 5 by omega) (show 5 < 2 ^ 31 by decide), nI_clamp (show f < 2 ^ 31 by omega), nI_1]
    have e : t9 s f = some (4, aL s, aT s, aw s, av s, aa s, ak s, ai s, aF s, aB s, updN (aM s) f (aM s f - aw s), aR s + 1, updN (aW s) (aR s) (aw s), updN (aV s) (aR s) (av s), updN (aA s) (aR s) (aa s), updN (aK s) (aR s) (ak s), updN (aG s) (aR s) f, aC s) := by unfold t9; rw [if_pos c]
    refine hP.2 _ e _ ((((((((FRd.rf.st ⟨by omega, by omega⟩).st ⟨by omega, by omega⟩).st ⟨by omega, by omega⟩).st ⟨by omega, by omega⟩).st ⟨by omega, by omega⟩).st ⟨by omega, by omega⟩).st ⟨by omega, by omega⟩).s11.s2) (cR1_mk (S := 4) rfl (by rw [st_at]; rfl) (fun _ => by rw [st_k (by decide), st_o (by decide), st_o (by omega), st_o (by omega), st_o (by omega), st_o (by omega), st_o (by omega), st_o (by omega), st_o (by omega)]; exact C1.2.1 (by omega)) (fun z => absurd z (by decide)) (fun z => absurd z (by decide)) (fun z => absurd z (by decide)) (fun z => absurd z (by decide)) (fun z => absurd z (by decide)) (fun z => absurd z (by decide))) ⟨by rw [st_o (by omega), st_o (by omega)]; rw [st_k (by decide)]; rw [st_o (by omega), st_o (by omega), st_o (by omega), st_o (by omega), st_o (by omega), st_o (by omega)]; exact C.1, by rw [st_o (by omega), st_o (by omega), st_at]; rfl, fun f' hf' => ⟨?_, ?_⟩, fun r hr => ?_⟩
    · have hf' : f' < aL s := hf'
      rw [st_o (by decide)]
      refine st_up rfl (fun z => ?_)
      rw [st_o (by omega), st_o (by omega), st_o (by omega), st_o (by omega), st_o (by omega), st_o (by omega), st_o (by omega)]
      exact (C.2.2.1 f' hf').1
    · have hf' : f' < aL s := hf'
      rw [st_o (by omega), st_o (by omega), st_o (by omega), st_o (by omega), st_o (by omega), st_o (by omega), st_o (by omega), st_o (by omega), st_o (by omega)]
      exact (C.2.2.1 f' hf').2
    have hr : r < aR s + 1 := hr
    have old : r ≠ aR s → _ := fun z => C.2.2.2 r (by omega)
    refine ⟨?_, ?_, ?_, ?_, ?_, ?_⟩
    · rw [st_o (by omega), st_o (by omega), st_o (by omega), st_o (by omega), st_o (by omega), st_o (by omega), st_o (by omega), st_o (by omega)]
      refine st_up rfl (fun z => ?_)
      exact (old z).1
    · rw [st_o (by omega), st_o (by omega), st_o (by omega), st_o (by omega), st_o (by omega), st_o (by omega), st_o (by omega)]
      refine st_up rfl (fun z => ?_)
      rw [st_o (by omega)]
      exact (old z).2.1
    · rw [st_o (by omega), st_o (by omega), st_o (by omega), st_o (by omega), st_o (by omega), st_o (by omega)]
      refine st_up rfl (fun z => ?_)
      rw [st_o (by omega), st_o (by omega)]
      exact (old z).2.2.1
    · rw [st_o (by omega), st_o (by omega), st_o (by omega), st_o (by omega), st_o (by omega)]
      refine st_up rfl (fun z => ?_)
      rw [st_o (by omega), st_o (by omega), st_o (by omega)]
      exact (old z).2.2.2.1
    · rw [st_o (by omega), st_o (by omega), st_o (by omega), st_o (by omega)]
      refine st_up rfl (fun z => ?_)
      rw [st_o (by omega), st_o (by omega), st_o (by omega), st_o (by omega)]
      exact (old z).2.2.2.2.1
    · rw [st_o (by omega), st_o (by omega), st_o (by omega)]
      by_cases z : r = aR s
      · rw [z, st_at]
        show (0 : Int32) = nI (aC s (aR s))
        rw [O.b.2.2 (aR s) (Nat.le_refl _)]
        rfl
      · rw [st_k z]
        rw [st_o (by omega), st_o (by omega), st_o (by omega), st_o (by omega), st_o (by omega)]
        exact (old z).2.2.2.2.2
  simp only [e28, z28_0, z28_1, pv_catN, pv_cat1, pv_cat2, pv_cat3, pv_catL, Option.toList, List.nil_append, List.cons_append, List.append_nil, pv_rfS, pn_i, pn_r, pn_n, pn_o, true_and, and_true, Nat.le_refl, and_self, true_implies, false_implies, not_true_eq_false, not_false_eq_true, pv_b0, pv_b01, pv_bn0, pv_b1, Bool.false_eq_true, Bool.true_eq_false, Bool.not_false, Bool.not_true, pv_bT, pv_bF, eq_self, true_or, or_true, G.o2]
  rw [z28_2 (by simp [pv_cat, Value.category]) (by decide)]
  refine ⟨G.o2, m33 G ew hw C O (by omega) (by omega) ?_⟩
  simp only [z28_5, z28_8, z28_9, z28_12, z28_13, z28_16, z28_17, z28_24, z28_25, pv_catN, pv_cat1, pv_cat2, pv_cat3, pv_catL, Option.toList, List.nil_append, List.cons_append, List.append_nil, pv_rfS, pn_i, pn_r, pn_n, pn_o, true_and, and_true, Nat.le_refl, and_self, true_implies, false_implies, not_true_eq_false, not_false_eq_true, pv_b0, pv_b01, pv_bn0, pv_b1, Bool.false_eq_true, Bool.true_eq_false, Bool.not_false, Bool.not_true, pv_bT, pv_bF, eq_self, true_or, or_true, G.o2, ek, k3]
  refine br (fun c => no (by rw [c]; simp)) (fun c => ⟨fun c2 => yes (by rw [c, decide_eq_false c2]; rfl), fun c2 => ?_⟩)
  have c2 := Classical.not_not.mp c2
  rw [z28_18 (by simp [pv_cat, Value.category]) (by decide)]
  refine ⟨G.o2, m32 G C O ?_⟩
  simp only [z28_21, z28_24, z28_25, pv_catN, pv_cat1, pv_cat2, pv_cat3, pv_catL, Option.toList, List.nil_append, List.cons_append, List.append_nil, pv_rfS, pn_i, pn_r, pn_n, pn_o, true_and, and_true, Nat.le_refl, and_self, true_implies, false_implies, not_true_eq_false, not_false_eq_true, pv_b0, pv_b01, pv_bn0, pv_b1, Bool.false_eq_true, Bool.true_eq_false, Bool.not_false, Bool.not_true, pv_bT, pv_bF, eq_self, true_or, or_true]
  by_cases cR : 0 < aR s
  · rw [if_pos cR]
    have hg := (O.b.2.1 (aR s - 1) (by omega)).2.2.2.2.2.1
    simp only [nI_eq' (show f < 2 ^ 31 by omega) (show aG s (aR s - 1) < 2 ^ 31 by omega)]
    refine ⟨fun c3 => yes ?_, fun c3 => no ?_⟩
    · rw [c, decide_eq_true c2]
      unfold aPl
      rw [decide_eq_true cR, decide_eq_true c3]
      rfl
    · rw [c, decide_eq_true c2]
      unfold aPl
      rw [decide_eq_true cR, decide_eq_false c3]
      simp
  · rw [if_neg cR]
    have en : (nI f = -1) = False := eq_false (fun z => by
      have : ((nI f) < 0) = False := lt0N (show f < 2 ^ 30 by omega)
      rw [z] at this
      exact of_eq_false this (of_eq_true neg1))
    simp only [en, false_implies, not_false_eq_true, true_implies, true_and]
    refine no ?_
    rw [c, decide_eq_true c2]
    unfold aPl
    rw [decide_eq_false cR]
    simp
