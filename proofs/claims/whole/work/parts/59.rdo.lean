/-! THE READER of the class: fault, tower -/
theorem gC.sw {g g' : PvG} {rt tt : Nat} {q : Nat → Nat} (G : gC g rt tt q) (ht : ∀ o, pv_tg g' o = pv_tg g o) (hr : ∀ o k, ¬ (o = 0 ∧ k = 3) → ¬ (o = 2 ∧ k = 0) → pv_rf g' o k = pv_rf g o k) (h1 : pv_rf g' 0 3 = some tt) (h2 : pv_rf g' 2 0 = some rt) : gC g' tt rt q := by
  have hS : ∀ o, 3 ≤ o → gS g o → gS g' o := fun o ho G => by
    have hr' : ∀ k, pv_rf g' o k = pv_rf g o k := fun k => hr o k (by omega) (by omega)
    unfold gS at G ⊢
    simp only [ht, hr']
    exact G
  have hT : ∀ o, 3 ≤ o → gT g o → gT g' o := fun o ho G => by
    have hr' : ∀ k, pv_rf g' o k = pv_rf g o k := fun k => hr o k (by omega) (by omega)
    unfold gT at G ⊢
    simp only [ht, hr']
    exact G
  exact ⟨(by rw [ht]; exact G.o0), (by rw [ht]; exact G.o2), (by rw [ht]; exact G.o25), (by rw [ht]; exact G.o67), (by rw [ht]; exact G.o73), (by rw [ht]; exact G.o79), (by rw [ht]; exact G.o84), (by rw [ht]; exact G.o99), (by rw [ht]; exact G.o101), (by rw [hr _ _ (by omega) (by omega)]; exact G.r0_0), (by rw [hr _ _ (by omega) (by omega)]; exact G.r0_2), h1, (by rw [hr _ _ (by omega) (by omega)]; exact G.r0_4), (by rw [hr _ _ (by omega) (by omega)]; exact G.r0_5), (by rw [hr _ _ (by omega) (by omega)]; exact G.r0_6), (by rw [hr _ _ (by omega) (by omega)]; exact G.r0_7), (by rw [hr _ _ (by omega) (by omega)]; exact G.r0_8), (by rw [hr _ _ (by omega) (by omega)]; exact G.r0_9), (by rw [hr _ _ (by omega) (by omega)]; exact G.r0_10), (by rw [hr _ _ (by omega) (by omega)]; exact G.r0_11), (by rw [hr _ _ (by omega) (by omega)]; exact G.r0_12), h2, (by rw [hr _ _ (by omega) (by omega)]; exact G.r2_4), (by rw [hr _ _ (by omega) (by omega)]; exact G.r25_0), (by rw [hr _ _ (by omega) (by omega)]; exact G.r67_1), (by rw [hr _ _ (by omega) (by omega)]; exact G.r67_2), (by rw [hr _ _ (by omega) (by omega)]; exact G.r73_1), (by rw [hr _ _ (by omega) (by omega)]; exact G.r73_2), (by rw [hr _ _ (by omega) (by omega)]; exact G.r79_1), (by rw [hr _ _ (by omega) (by omega)]; exact G.r79_2), (by rw [hr _ _ (by omega) (by omega)]; exact G.r79_3), (by rw [hr _ _ (by omega) (by omega)]; exact G.r79_4), (by rw [hr _ _ (by omega) (by omega)]; exact G.r84_2), (by rw [hr _ _ (by omega) (by omega)]; exact G.r84_7), (by rw [hr _ _ (by omega) (by omega)]; exact G.r84_8), (by rw [hr _ _ (by omega) (by omega)]; exact G.r84_9), (by rw [hr _ _ (by omega) (by omega)]; exact G.r84_10), (by rw [hr _ _ (by omega) (by omega)]; exact G.r84_11), (by rw [hr _ _ (by omega) (by omega)]; exact G.r84_12), (by rw [hr _ _ (by omega) (by omega)]; exact G.r88_0), (by rw [hr _ _ (by omega) (by omega)]; exact G.r88_1), (by rw [hr _ _ (by omega) (by omega)]; exact G.r88_2), (by rw [hr _ _ (by omega) (by omega)]; exact G.r92_0), (by rw [hr _ _ (by omega) (by omega)]; exact G.r92_1), (by rw [hr _ _ (by omega) (by omega)]; exact G.r92_2), (by rw [hr _ _ (by omega) (by omega)]; exact G.r92_3), (by rw [hr _ _ (by omega) (by omega)]; exact G.r99_4), (by rw [ht]; exact G.t1), (by rw [ht]; exact G.t11), (by rw [ht]; exact G.t24), (by rw [ht]; exact G.t26), (by rw [ht]; exact G.t72), (by rw [ht]; exact G.t78), (by rw [ht]; exact G.t80), (by rw [ht]; exact G.t81), (by rw [ht]; exact G.t82), (by rw [ht]; exact G.t83), (by rw [ht]; exact G.t85), (by rw [ht]; exact G.t86), (by rw [ht]; exact G.t87), (by rw [ht]; exact G.t88), (by rw [ht]; exact G.t89), (by rw [ht]; exact G.t90), (by rw [ht]; exact G.t91), (by rw [ht]; exact G.t92), (by rw [ht]; exact G.t93), (by rw [ht]; exact G.t94), (by rw [ht]; exact G.t95), (by rw [ht]; exact G.t96), (by rw [ht]; exact G.t97), (by rw [ht]; exact G.t98), (by rw [ht]; exact G.t100), hT 3 (by omega) G.T3, hT 12 (by omega) G.T12, hS 20 (by omega) G.S20, hS 68 (by omega) G.S68, hS 74 (by omega) G.S74, fun j hj => hS _ (by omega) (G.Sq j hj), (fun i hi => by rw [hr _ _ (by omega) (by omega)]; exact G.q i hi), G.qj, G.qi, (by have := G.rt; omega)⟩
theorem m39 {d : Nat} {P : PvP} {g : PvG} {h : PvH} {t : Nat} (G : gS g 20) (T : gT g t) (ht : t = 3 ∨ t = 12) (hP : ∀ h' : PvH, (∀ a, (a < 20 ∨ 23 < a) → h' a = h a) → (∀ j, j < 8 → h' 21 j = h (t + 6) j) → (∀ j, j < 8 → h' 22 j = h (t + 3) j) → (∀ j, j < 8 → h' 23 j = h (t + 5) j) → h' 20 3 = 0 → h' 20 4 = 0 → h' 20 5 = 9 → h' 20 6 = 9 → P none g h') : pv_run (d + 2) 39 [.ref 20, .ref t] g h P := by
  obtain ⟨T0, T1, T3, T4, T5, T6, T7, T8, u1, u2, u3, u4, u5, u6, u7⟩ := T
  simp only [e39, z39_0, z39_1, z39_2, z39_5, z39_6, z39_9, z39_10, pv_catN, pv_cat1, pv_cat2, pv_cat3, pv_catL, Option.toList, List.nil_append, List.cons_append, List.append_nil, pv_rfS, pn_i, pn_r, pn_n, pn_o, true_and, and_true, Nat.le_refl, and_self, true_implies, false_implies, not_true_eq_false, not_false_eq_true, pv_b0, pv_b01, pv_bn0, pv_b1, Bool.false_eq_true, Bool.true_eq_false, Bool.not_false, Bool.not_true, pv_bT, pv_bF, eq_self, true_or, or_true, T0, T7, T4, T6]
  rw [z39_13 (by simp [pv_cat, Value.category]) (by decide)]
  refine ⟨G.1, m41 G u6 u3 u5 (by omega) (by omega) (by omega) fun h1 f1 c1 c2 c3 => ?_⟩
  simp only [z39_16, z39_17, z39_18, z39_21, z39_22, z39_23, z39_26, z39_27, z39_29, z39_32, z39_33, z39_35, z39_38, pv_catN, pv_cat1, pv_cat2, pv_cat3, pv_catL, Option.toList, List.nil_append, List.cons_append, List.append_nil, pv_rfS, pn_i, pn_r, pn_n, pn_o, true_and, and_true, Nat.le_refl, and_self, true_implies, false_implies, not_true_eq_false, not_false_eq_true, pv_b0, pv_b01, pv_bn0, pv_b1, Bool.false_eq_true, Bool.true_eq_false, Bool.not_false, Bool.not_true, pv_bT, pv_bF, eq_self, true_or, or_true, G.1]
  refine hP _ (fun a ha => ?_) (fun j hj => ?_) (fun j hj => ?_) (fun j hj => ?_) ?_ ?_ ?_ ?_
  · rw [st_o (by omega), st_o (by omega), st_o (by omega), st_o (by omega), f1 a (by omega) (by omega) (by omega)]
  · rw [st_o (by omega), st_o (by omega), st_o (by omega), st_o (by omega)]; exact c1 j hj
  · rw [st_o (by omega), st_o (by omega), st_o (by omega), st_o (by omega)]; exact c2 j hj
  · rw [st_o (by omega), st_o (by omega), st_o (by omega), st_o (by omega)]; exact c3 j hj
  · rw [st_k (by omega), st_k (by omega), st_k (by omega), st_at]
  · rw [st_k (by omega), st_k (by omega), st_at]
  · rw [st_k (by omega), st_at]
  · rw [st_at]
theorem rg_le {X : Nat → Nat} : ∀ {m p : Nat} {s : RS} {r : Nat}, (rg X m p s).1 = some r → r ≤ p + m
  | 0, p, s, r, h => by
    unfold rg at h
    by_cases c : aS s = 4
    · rw [if_pos c] at h; cases h
    · rw [if_neg c] at h
      have := Option.some.inj h
      omega
  | m + 1, p, s, r, h => by
    cases hk : tk s (X p) with
    | none =>
      rw [rg_n hk] at h
      have := Option.some.inj h
      omega
    | some s' =>
      rw [rg_s hk] at h
      have := rg_le h
      omega
def towA (x : SX) : Int32 := match (readR x).1 with
  | none => nI (aR (readR x).2)
  | some _ => -3
def towXX (x : SX) : SX := match (readR x).1 with
  | none => towX x (readR x).2
  | some _ => x
theorem towXX_ok {x : SX} (O : okX x) : okX (towXX x) := by
  unfold towXX
  cases h : (readR x).1 with
  | none => exact towX_ok O (rg_ok s0_ok h).1 (rg_ok s0_ok h).2
  | some p => exact O
theorem fauA_n {x : SX} (h : (readR x).1 = none) : fauA x = -9 := by unfold fauA; rw [h]
theorem fauA_s {x : SX} (O : okX x) {p : Nat} (h : (readR x).1 = some p) : fauA x = nI p ∧ (nI p = -9) = False := by
  refine ⟨by unfold fauA; rw [h], eq_false (fun z => ?_)⟩
  have hN : xN x ≤ 76 := O.2.2.2.2.2.2.2.1
  have hp := rg_le h
  have : ((nI p) < 0) = False := lt0N (show p < 2 ^ 30 by omega)
  rw [z] at this
  exact of_eq_false this (by decide)
theorem oC61 {x : SX} (O : okX x) : OpC 7 61 [] x (.int (fauA x)) x := by
  intro d P g h ⟨rt, tt, q, G, C⟩ hP
  simp only [e61, z61_0, z61_1, z61_4, z61_5, z61_8, z61_9, pv_catN, pv_cat1, pv_cat2, pv_cat3, pv_catL, Option.toList, List.nil_append, List.cons_append, List.append_nil, pv_rfS, pn_i, pn_r, pn_n, pn_o, true_and, and_true, Nat.le_refl, and_self, true_implies, false_implies, not_true_eq_false, not_false_eq_true, pv_b0, pv_b01, pv_bn0, pv_b1, Bool.false_eq_true, Bool.true_eq_false, Bool.not_false, Bool.not_true, pv_bT, pv_bF, eq_self, true_or, or_true, G.o0, G.r0_2, G.r0_0, C.N]
  rw [z61_12 (by simp [pv_cat, Value.category]) (by decide)]
  refine ⟨G.o2, m17 G C O fun h1 F1 _ => ?_⟩
  simp only [z61_15, pv_catN, pv_cat1, pv_cat2, pv_cat3, pv_catL, Option.toList, List.nil_append, List.cons_append, List.append_nil, pv_rfS, pn_i, pn_r, pn_n, pn_o, true_and, and_true, Nat.le_refl, and_self, true_implies, false_implies, not_true_eq_false, not_false_eq_true, pv_b0, pv_b01, pv_bn0, pv_b1, Bool.false_eq_true, Bool.true_eq_false, Bool.not_false, Bool.not_true, pv_bT, pv_bF, eq_self, true_or, or_true]
  have hr := G.rt
  exact hP g h1 ⟨rt, tt, q, G, F1.cC G C O⟩ FG.rf (fun o ho => F1 o (by omega) (by omega) (by omega))
set_option maxHeartbeats 1000000 in
theorem oC62 {x : SX} (O : okX x) : OpC 8 62 [] x (.int (towA x)) (towXX x) := by
  intro d P g h ⟨rt, tt, q, G, C⟩ hP
  have hr := G.rt
  simp only [e62, z62_0, z62_1, z62_4, z62_5, z62_8, z62_9, pv_catN, pv_cat1, pv_cat2, pv_cat3, pv_catL, Option.toList, List.nil_append, List.cons_append, List.append_nil, pv_rfS, pn_i, pn_r, pn_n, pn_o, true_and, and_true, Nat.le_refl, and_self, true_implies, false_implies, not_true_eq_false, not_false_eq_true, pv_b0, pv_b01, pv_bn0, pv_b1, Bool.false_eq_true, Bool.true_eq_false, Bool.not_false, Bool.not_true, pv_bT, pv_bF, eq_self, true_or, or_true, G.o0, G.r0_2, G.r0_0, C.N]
  rw [z62_12 (by simp [pv_cat, Value.category]) (by decide)]
  refine ⟨G.o2, m17 G C O fun h1 F1 R1 => ?_⟩
  have C1 := F1.cC G C O
  simp only [z62_15, z62_17, z62_20, z62_22, pv_catN, pv_cat1, pv_cat2, pv_cat3, pv_catL, Option.toList, List.nil_append, List.cons_append, List.append_nil, pv_rfS, pn_i, pn_r, pn_n, pn_o, true_and, and_true, Nat.le_refl, and_self, true_implies, false_implies, not_true_eq_false, not_false_eq_true, pv_b0, pv_b01, pv_bn0, pv_b1, Bool.false_eq_true, Bool.true_eq_false, Bool.not_false, Bool.not_true, pv_bT, pv_bF, eq_self, true_or, or_true]
  have FC1 : FC h h1 := fun o ho => F1 o (by omega) (by omega) (by omega)
  cases hk : (readR x).1 with
  | some p =>
    obtain ⟨e1, e2⟩ := fauA_s O hk
    rw [e1, e2]
    simp only [false_implies, not_false_eq_true, true_implies, true_and]
    unfold towA towXX at hP
    rw [hk] at hP
    exact hP g h1 ⟨rt, tt, q, G, C1⟩ FG.rf FC1
  | none =>
    have R1 := R1 hk
    obtain ⟨A, h4⟩ := rg_ok s0_ok hk
    rw [fauA_n hk]
    unfold towA towXX at hP
    rw [hk] at hP
    simp only [not_true_eq_false, false_implies, and_true, true_implies]
    have hP : ∀ g' h', RC g' h' (towX x (readR x).2) → FG g g' → FC h h' → P (some (.int (nI (aR (readR x).2)))) g' h' := hP
    have A : okA (readR x).2 := A
    have h4 : aS (readR x).2 = 4 := h4
    generalize (readR x).2 = s at *
    have hR := A.R
    have e02 : pv_rf (pv_sr g 0 3 (some tt)) 0 2 = some 2 := by rw [sr_ne (by omega)]; exact G.r0_2
    simp only [z62_23, z62_24, z62_27, z62_28, z62_29, z62_30, z62_33, z62_36, z62_39, z62_40, z62_43, z62_44, pv_catN, pv_cat1, pv_cat2, pv_cat3, pv_catL, Option.toList, List.nil_append, List.cons_append, List.append_nil, pv_rfS, pn_i, pn_r, pn_n, pn_o, true_and, and_true, Nat.le_refl, and_self, true_implies, false_implies, not_true_eq_false, not_false_eq_true, pv_b0, pv_b01, pv_bn0, pv_b1, Bool.false_eq_true, Bool.true_eq_false, Bool.not_false, Bool.not_true, pv_bT, pv_bF, eq_self, true_or, or_true, G.o0, G.o2, G.r0_3, G.r0_2, G.r2_0, sr_tg, e02]
    generalize hg : pv_sr (pv_sr g 0 3 (some tt)) 2 0 (some rt) = g2
    have t2 : ∀ o, pv_tg g2 o = pv_tg g o := fun o => by rw [← hg]; rfl
    have r2 : ∀ o k, ¬ (o = 0 ∧ k = 3) → ¬ (o = 2 ∧ k = 0) → pv_rf g2 o k = pv_rf g o k := fun o k a b => by rw [← hg, sr_ne b, sr_ne a]
    have G2 : gC g2 tt rt q := G.sw t2 r2 (by rw [← hg, sr_ne (by omega), sr_at]) (by rw [← hg, sr_at])
    have FG2 : FG g g2 := ⟨t2, fun o k ho => r2 o k (by omega) (by omega)⟩
    obtain ⟨T0, T1, T3, T4, T5, T6, T7, T8, u1, u2, u3, u4, u5, u6, u7⟩ := G2.Tr
    simp only [z62_47, z62_48, z62_51, z62_52, pv_catN, pv_cat1, pv_cat2, pv_cat3, pv_catL, Option.toList, List.nil_append, List.cons_append, List.append_nil, pv_rfS, pn_i, pn_r, pn_n, pn_o, true_and, and_true, Nat.le_refl, and_self, true_implies, false_implies, not_true_eq_false, not_false_eq_true, pv_b0, pv_b01, pv_bn0, pv_b1, Bool.false_eq_true, Bool.true_eq_false, Bool.not_false, Bool.not_true, pv_bT, pv_bF, eq_self, true_or, or_true, G2.o0, G2.r0_4, G2.r0_3]
    rw [z62_55 (by simp [pv_cat, Value.category]) (by decide)]
    refine ⟨G2.S20.1, m39 G2.S20 G2.Tr (by omega) fun h2 f2 c1 c2 c3 c4 c5 c6 c7 => ?_⟩
    have Q : ∀ a, tt ≤ a → a ≤ tt + 7 → h2 a = h1 a := fun a x y => f2 a (by omega)
    have loop : ∀ n r (h3 : PvH), r + n = aR s → (∀ o, o ≠ 24 → h3 o = h2 o) → (∀ j, j < r → h3 24 j = nI (aG s j)) → pv_E (d + 7) 62 P 60 [some (.ref 0), some (.ref rt), some (.int (nI r))] [] 0 0 g2 h3 := by
      intro n
      induction n with
      | zero =>
        intro r h3 hn f3 i3
        have hn : r = aR s := hn
        subst hn
        have e2 : h3 tt 2 = nI (aR s) := by rw [f3 tt (by omega), Q tt (by omega) (by omega)]; exact R1.2.1
        have k1 : ∀ (h : PvH) (o k : Nat) (v : Int32), 24 < o → pv_st h o k v tt = h tt := fun h o k v ho => st_o (by omega)
        rw [z62_60]
        simp only [z62_61, z62_62, z62_65, z62_68, z62_92, z62_93, z62_96, z62_97, z62_100, z62_101, z62_104, z62_105, z62_108, z62_109, z62_112, z62_113, z62_116, z62_117, z62_120, z62_123, pv_catN, pv_cat1, pv_cat2, pv_cat3, pv_catL, Option.toList, List.nil_append, List.cons_append, List.append_nil, pv_rfS, pn_i, pn_r, pn_n, pn_o, true_and, and_true, Nat.le_refl, and_self, true_implies, false_implies, not_true_eq_false, not_false_eq_true, pv_b0, pv_b01, pv_bn0, pv_b1, Bool.false_eq_true, Bool.true_eq_false, Bool.not_false, Bool.not_true, pv_bT, pv_bF, eq_self, true_or, or_true, G2.o0, G2.r0_3, G2.r0_6, G2.r0_7, G2.r0_8, G2.o25, G2.o67, G2.o73, T0, e2, nI_le' (show aR s < 2 ^ 31 by omega) (show aR s < 2 ^ 31 by omega), k1 _ 73 _ _ (by decide), k1 _ 67 _ _ (by decide), k1 _ 25 _ _ (by decide)]
        have E : ∀ o, o ≠ 24 → o ≠ 25 → o ≠ 67 → o ≠ 73 → pv_st (pv_st (pv_st h3 25 1 0) 67 0 0) 73 0 0 o = h2 o := fun o a b c e => by rw [st_o e, st_o c, st_o b, f3 o a]
        have E1 : ∀ o, o ≠ 24 → o ≠ 25 → o ≠ 67 → o ≠ 73 → (o < 20 ∨ 23 < o) → pv_st (pv_st (pv_st h3 25 1 0) 67 0 0) 73 0 0 o = h1 o := fun o a b c e k => by rw [E o a b c e, f2 o k]
        have E2 : ∀ o, tt ≤ o → o ≤ tt + 7 → pv_st (pv_st (pv_st h3 25 1 0) 67 0 0) 73 0 0 o = h1 o := fun o a b => E1 o (by omega) (by omega) (by omega) (by omega) (by omega)
        refine hP g2 _ ⟨tt, rt, q, G2, ?_⟩ FG2 (fun o ho => by rw [E1 o (by omega) (by omega) (by omega) (by omega) (by omega)]; exact FC1 o ho)
        have hL := A.L (by omega)
        obtain ⟨y1, y2, y3, y4⟩ := R1
        obtain ⟨-, -, -, -, -, -, -, zN, zY, zz, zzl⟩ := C1
        refine ⟨⟨?_, fun f hf => ?_, ?_, fun r hr => ?_, fun r hr => ?_, fun r hr => ?_⟩, ⟨fun r hr => ?_, fun r hr => ?_, fun r hr => ?_, ?_, ?_, ?_, ?_⟩, fun r hr => ?_, ?_, fun i s hs => (by cases hs), ⟨?_, fun s ix z => (by cases z)⟩, ⟨?_, fun s ix z => (by cases z)⟩, ?_, fun i hi => ?_, fun f hf => ?_, fun e f he hf => ?_⟩
        · rw [E2 tt (by omega) (by omega)]; exact y1
        · rw [E2 (tt + 1) (by omega) (by omega)]; exact (y3 f (by rw [hL]; exact hf)).2
        · rw [E2 tt (by omega) (by omega)]; exact y2
        · rw [E2 (tt + 2) (by omega) (by omega)]; exact (y4 r hr).1
        · rw [E2 (tt + 4) (by omega) (by omega)]; exact (y4 r hr).2.2.1
        · rw [E2 (tt + 7) (by omega) (by omega)]; exact (y4 r hr).2.2.2.2.2
        · have hr : r < aR s := hr
          rw [E 21 (by omega) (by omega) (by omega) (by omega), c1 r (by omega)]; exact (y4 r hr).2.2.2.2.1
        · have hr : r < aR s := hr
          rw [E 22 (by omega) (by omega) (by omega) (by omega), c2 r (by omega)]; exact (y4 r hr).2.1
        · have hr : r < aR s := hr
          rw [E 23 (by omega) (by omega) (by omega) (by omega), c3 r (by omega)]; exact (y4 r hr).2.2.2.1
        · rw [E 20 (by omega) (by omega) (by omega) (by omega), c4]; rfl
        · rw [E 20 (by omega) (by omega) (by omega) (by omega), c5]; rfl
        · rw [E 20 (by omega) (by omega) (by omega) (by omega), c6]; rfl
        · rw [E 20 (by omega) (by omega) (by omega) (by omega), c7]; rfl
        · rw [st_o (by omega), st_o (by omega), st_o (by omega)]; exact i3 r hr
        · rw [st_o (by omega), st_o (by omega), st_at]; rfl
        · rw [st_o (by omega), st_at]; rfl
        · rw [st_at]; rfl
        · rw [E1 0 (by omega) (by omega) (by omega) (by omega) (by omega)]; exact zN
        · rw [E1 1 (by omega) (by omega) (by omega) (by omega) (by omega)]; exact zY i hi
        · rw [E1 100 (by omega) (by omega) (by omega) (by omega) (by omega)]; exact zz f hf
        · rw [E1 (89 + e) (by omega) (by omega) (by omega) (by omega) (by omega)]; exact zzl e f he hf
      | succ n ih =>
        intro r h3 hn f3 i3
        have hrR : r < aR s := by omega
        have e2 : h3 tt 2 = nI (aR s) := by rw [f3 tt (by omega), Q tt (by omega) (by omega)]; exact R1.2.1
        have e6 : h3 (tt + 6) r = nI (aG s r) := by rw [f3 (tt + 6) (by omega), Q (tt + 6) (by omega) (by omega)]; exact (R1.2.2.2 r hrR).2.2.2.2.1
        rw [z62_60]
        simp only [z62_61, z62_62, z62_65, z62_68, z62_71, z62_72, z62_75, z62_76, z62_77, z62_80, z62_83, z62_84, z62_85, z62_86, z62_89, pv_catN, pv_cat1, pv_cat2, pv_cat3, pv_catL, Option.toList, List.nil_append, List.cons_append, List.append_nil, pv_rfS, pn_i, pn_r, pn_n, pn_o, true_and, and_true, Nat.le_refl, and_self, true_implies, false_implies, not_true_eq_false, not_false_eq_true, pv_b0, pv_b01, pv_bn0, pv_b1, Bool.false_eq_true, Bool.true_eq_false, Bool.not_false, Bool.not_true, pv_bT, pv_bF, eq_self, true_or, or_true, G2.o0, G2.r0_3, G2.r0_5, G2.t24, T0, T7, u6, e2, e6, nI_le' (show aR s < 2 ^ 31 by omega) (show r < 2 ^ 31 by omega), show (aR s ≤ r) = False from eq_false (by omega), vp_nI (show r < 8 by omega) (show 8 < 2 ^ 31 by decide), nI_clamp (show r < 2 ^ 31 by omega), nI_1]
        refine ih (r + 1) _ (by omega) (fun o a => by rw [st_o a, f3 o a]) (fun j hj => ?_)
        by_cases z : j = r
        · rw [z, st_at]
        · rw [st_k z]; exact i3 j (by omega)
    simp only [z62_58, z62_59, pv_catN, pv_cat1, pv_cat2, pv_cat3, pv_catL, Option.toList, List.nil_append, List.cons_append, List.append_nil, pv_rfS, pn_i, pn_r, pn_n, pn_o, true_and, and_true, Nat.le_refl, and_self, true_implies, false_implies, not_true_eq_false, not_false_eq_true, pv_b0, pv_b01, pv_bn0, pv_b1, Bool.false_eq_true, Bool.true_eq_false, Bool.not_false, Bool.not_true, pv_bT, pv_bF, eq_self, true_or, or_true]
    exact loop (aR s) 0 h2 (Nat.zero_add _) (fun _ _ => rfl) (fun j hj => absurd hj (Nat.not_lt_zero j))
