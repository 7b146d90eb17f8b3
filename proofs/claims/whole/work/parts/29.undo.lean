/-! note; undo, keep, again -/
theorem cP.fr {h h' : PvH} {a b b' R : Nat} {s : SS} (C : cP h a b R s) (hR : R ≤ 8) (hh : ∀ k, k < 35 → h' a (b' + k) = h a (b + k)) : cP h' a b' R s := by
  obtain ⟨c1, c2, c3, c4, c5, c6, c7⟩ := C
  refine ⟨fun r hr => ?_, fun r hr => ?_, fun r hr => ?_, fun r hr => ?_, ?_, ?_, ?_⟩
  · rw [hh r (by omega)]; exact c1 r hr
  · rw [show b' + 8 + r = b' + (8 + r) by omega, hh _ (by omega), show b + (8 + r) = b + 8 + r by omega]; exact c2 r hr
  · rw [show b' + 16 + r = b' + (16 + r) by omega, hh _ (by omega), show b + (16 + r) = b + 16 + r by omega]; exact c3 r hr
  · rw [show b' + 24 + r = b' + (24 + r) by omega, hh _ (by omega), show b + (24 + r) = b + 24 + r by omega]; exact c4 r hr
  · rw [hh 32 (by omega)]; exact c5
  · rw [hh 33 (by omega)]; exact c6
  · rw [hh 34 (by omega)]; exact c7
theorem cD.acts {h h' : PvH} {x : SX} (M : cD h x) {l : List SS} (hf : ∀ o, 103 ≤ o → o ≠ 117 → h' o = h o) (hk : ∀ k, k ≠ 25 → h' 102 k = h 102 k) (hn : h' 102 25 = nI l.length) (hA : ∀ i s, l[i]? = some s → cP h' 117 (35 * i) (tR (xT x)) s) : cD h' (xT x, xS x, xI x, l, xLo x, xHi x, xN x, xX x) := by
  obtain ⟨⟨a1, a2, a3, a4, a5, a6, a7, a8, a9, a10, a11, a12, a13, a14⟩, n, A, ⟨l1, l2⟩, ⟨i1, i2⟩, N, Y⟩ := M
  refine ⟨⟨?_, ?_, ?_, ?_, ?_, ?_, ?_, ?_, ?_, ?_, ?_, ?_, ?_, ?_⟩, hn, hA, ⟨?_, ?_⟩, ⟨?_, ?_⟩, ?_, ?_⟩
  · rw [hk _ (by omega)]; exact a1
  · rw [hf _ (by omega) (by omega)]; exact a2
  · rw [hk _ (by omega)]; exact a3
  · rw [hf _ (by omega) (by omega)]; exact a4
  · rw [hf _ (by omega) (by omega)]; exact a5
  · rw [hf _ (by omega) (by omega)]; exact a6
  · rw [hf _ (by omega) (by omega)]; exact a7
  · rw [hf _ (by omega) (by omega)]; exact a8
  · rw [hf _ (by omega) (by omega)]; exact a9
  · rw [hf _ (by omega) (by omega)]; exact a10
  · rw [hf _ (by omega) (by omega)]; exact a11
  · rw [hk _ (by omega)]; exact a12
  · rw [hk _ (by omega)]; exact a13
  · rw [hk _ (by omega)]; exact a14
  · rw [hf _ (by omega) (by omega)]; exact l1
  · intro s ix hs
    have := l2 s ix hs
    unfold cP at this ⊢
    rw [hf _ (by omega) (by omega)]; exact this
  · rw [hf _ (by omega) (by omega)]; exact i1
  · intro s ix hs
    have := i2 s ix hs
    unfold cP at this ⊢
    rw [hf _ (by omega) (by omega)]; exact this
  · rw [hk _ (by omega)]; exact N
  · rw [hf _ (by omega) (by omega)]; exact Y
theorem L35 {a : Nat} : (35 : Int32) * nI a = nI (35 * a) := pk_mul 35 a
theorem L43 {a : Nat} : (43 : Int32) * nI a = nI (43 * a) := pk_mul 43 a
set_option maxHeartbeats 1000000 in
theorem m130 {d : Nat} {P : PvP} {g : PvG} {h : PvH} {x : SX} (G : gM g) (M : cD h x) (O : okX x) (hP : ∀ h' : PvH, (∀ o, o ≠ 102 → o ≠ 117 → h' o = h o) → (∀ k, k ≠ 25 → h' 102 k = h 102 k) → cD h' (pushX x) → P none g h') : pv_run (d + 2) 130 [.ref 102] g h P := by
  have hR := O.R
  have hl := O.2.2.2.1
  have tail : ∀ (h1 : PvH) (l : List SS), (∀ o, o ≠ 102 → o ≠ 117 → h1 o = h o) → (∀ k, k ≠ 25 → h1 102 k = h 102 k) → cD h1 (xT x, xS x, xI x, l, xLo x, xHi x, xN x, xX x) → l.length < 10 → (if (xA x).length < 10 then xA x else (xA x).drop 1) = l → ∀ x1, pv_E (d + 1) 130 P 49 [some (.ref 102), x1] [] 0 0 g h1 := by
    intro h1 l f1 f2 M1 hl10 hl2 x1
    have hn : h1 102 25 = nI l.length := M1.n
    simp only [z130_0, z130_1, z130_4, z130_6, z130_9, z130_10, z130_11, z130_12, z130_15, z130_18, z130_19, z130_22, z130_23, z130_24, z130_27, z130_28, z130_30, z130_31, z130_32, z130_33, z130_36, z130_39, z130_40, y130_40, z130_41, z130_44, z130_45, z130_46, z130_49, z130_50, z130_51, z130_54, z130_56, z130_57, z130_60, pv_catN, pv_cat1, pv_cat2, pv_cat3, pv_catL, Option.toList, List.nil_append, List.cons_append, List.append_nil, pv_rfS, pn_i, pn_r, pn_n, pn_o, true_and, and_true, Nat.le_refl, and_self, true_implies, false_implies, not_true_eq_false, not_false_eq_true, pv_b0, pv_b01, pv_bn0, pv_b1, Bool.false_eq_true, Bool.true_eq_false, Bool.not_false, Bool.not_true, pv_bT, pv_bF, eq_self, G.o, G.r24, hn, L35]
    rw [z130_61 (by simp [pv_cat]) (by decide)]
    refine ⟨G.o, m128 G M1.M hR G.t117 (show 35 * l.length + 35 ≤ 350 by omega) (by omega) (Or.inl rfl) fun h2 c1 c2 c3 => ?_⟩
    have hn2 : h2 102 25 = nI l.length := by rw [c1 102 (by omega)]; exact hn
    simp only [z130_0, z130_1, z130_4, z130_6, z130_9, z130_10, z130_11, z130_12, z130_15, z130_18, z130_19, z130_22, z130_23, z130_24, z130_27, z130_28, z130_30, z130_31, z130_32, z130_33, z130_36, z130_39, z130_40, y130_40, z130_41, z130_44, z130_45, z130_46, z130_49, z130_50, z130_51, z130_54, z130_56, z130_57, z130_60, z130_61, z130_64, z130_65, y130_65, z130_66, z130_69, z130_70, z130_71, z130_74, pv_catN, pv_cat1, pv_cat2, pv_cat3, pv_catL, Option.toList, List.nil_append, List.cons_append, List.append_nil, pv_rfS, pn_i, pn_r, pn_n, pn_o, true_and, and_true, Nat.le_refl, and_self, true_implies, false_implies, not_true_eq_false, not_false_eq_true, pv_b0, pv_b01, pv_bn0, pv_b1, Bool.false_eq_true, Bool.true_eq_false, Bool.not_false, Bool.not_true, pv_bT, pv_bF, eq_self, G.o, hn2, nI_1]
    refine hP _ (fun o h1 h2 => by rw [st_o h1, c1 o h2, f1 o h1 h2]) (fun k hk => by rw [st_k hk, c1 102 (by omega), f2 k hk]) ?_
    refine cD.acts (h := h1) (x := (xT x, xS x, xI x, l, xLo x, xHi x, xN x, xX x)) M1 (fun o h1 h2 => by rw [st_o (by omega), c1 o h2]) (fun k hk => by rw [st_k hk, c1 102 (by omega)]) ?_ ?_
    · rw [st_at]
      show nI (l.length + 1) = nI (pushL (xA x) (xS x)).length
      unfold pushL
      rw [hl2]
      simp
    · intro i s hs
      have hs : (pushL (xA x) (xS x))[i]? = some s := hs
      unfold pushL at hs
      rw [hl2] at hs
      by_cases c : i < l.length
      · rw [List.getElem?_append_left c] at hs
        refine (M1.A i s hs).fr hR (fun k hk => ?_)
        rw [st_o (by omega), c2 _ (by omega)]
      · rw [List.getElem?_append_right (by omega)] at hs
        have hi : i - l.length < 1 := (List.getElem?_eq_some_iff.mp hs).1
        obtain rfl : i = l.length := by omega
        rw [Nat.sub_self] at hs
        cases hs
        exact c3.fr hR (fun k hk => by rw [st_o (by omega)])
  have en : (h 102 25 = 10) = ((xA x).length = 10) := by
    rw [M.n, show (10 : Int32) = nI 10 from rfl]
    exact nI_eq' (by omega) (by decide)
  rw [e130, z130_0, z130_1, z130_4, z130_6]
  refine ⟨G.o, fun c => ?_, fun c => ?_⟩
  · rw [en] at c
    exact tail h (xA x) (fun _ _ _ => rfl) (fun _ _ => rfl) M (by omega) (if_pos (by omega)) _
  · rw [en] at c
    have c : (xA x).length = 10 := Classical.byContradiction c
    have loop : ∀ m k (h1 : PvH), k + m = 315 → (∀ o, o ≠ 117 → h1 o = h o) → (∀ j, h1 117 j = if j < k then h 117 (j + 35) else h 117 j) → pv_E (d + 1) 130 P 11 [some (.ref 102), some (.int (nI k))] [] 0 0 g h1 := by
      intro m
      induction m with
      | zero =>
        intro k h1 hk f1 f2
        have hk : k = 315 := hk
        subst hk
        have hn9 : ((xA x).drop 1).length = 9 := by simp; omega
        rw [z130_11]
        simp only [z130_12, z130_15, z130_39, y130_40, z130_41, z130_44, z130_45, z130_46, pv_catN, pv_cat1, pv_cat2, pv_cat3, pv_catL, Option.toList, List.nil_append, List.cons_append, List.append_nil, pv_rfS, pn_i, pn_r, pn_n, pn_o, true_and, and_true, Nat.le_refl, and_self, true_implies, false_implies, not_true_eq_false, not_false_eq_true, pv_b0, pv_b01, pv_bn0, pv_b1, Bool.false_eq_true, Bool.true_eq_false, Bool.not_false, Bool.not_true, pv_bT, pv_bF, eq_self, show ((315 : Int32) ≤ nI 315) = True from eq_true (by decide), G.o, f1 102 (by omega), M.n, show nI (xA x).length - 1 = nI 9 from by rw [c]; rfl]
        refine tail _ ((xA x).drop 1) (fun o h1 h2 => by rw [st_o h1, f1 o h2]) (fun k hk => by rw [st_k hk, f1 102 (by omega)]) ?_ (by omega) (if_neg (by omega)) _
        refine cD.acts M (fun o h1 h2 => by rw [st_o (by omega), f1 o h2]) (fun k hk => by rw [st_k hk, f1 102 (by omega)]) (by rw [st_at, hn9]) (fun i s hs => ?_)
        have hi : i < 9 := by have := (List.getElem?_eq_some_iff.mp hs).1; omega
        rw [List.getElem?_drop, Nat.add_comm] at hs
        refine (M.A (i + 1) s hs).fr hR (fun k hk => ?_)
        rw [st_o (by omega), f2, if_pos (by omega)]
        congr 1
        omega
      | succ m ih =>
        intro k h1 hk f1 f2
        have e35 : h1 117 (k + 35) = h 117 (k + 35) := by rw [f2, if_neg (by omega)]
        rw [z130_11]
        simp only [z130_0, z130_1, z130_4, z130_6, z130_9, z130_10, z130_12, z130_15, z130_18, z130_19, z130_22, z130_23, z130_24, z130_27, z130_28, z130_30, z130_31, z130_32, z130_33, z130_36, z130_39, z130_40, y130_40, z130_41, z130_44, z130_45, z130_46, z130_49, z130_50, z130_51, z130_54, z130_56, z130_57, z130_60, z130_61, z130_64, z130_65, y130_65, z130_66, z130_69, z130_70, z130_71, z130_74, pv_catN, pv_cat1, pv_cat2, pv_cat3, pv_catL, Option.toList, List.nil_append, List.cons_append, List.append_nil, pv_rfS, pn_i, pn_r, pn_n, pn_o, true_and, and_true, Nat.le_refl, and_self, true_implies, false_implies, not_true_eq_false, not_false_eq_true, pv_b0, pv_b01, pv_bn0, pv_b1, Bool.false_eq_true, Bool.true_eq_false, Bool.not_false, Bool.not_true, pv_bT, pv_bF, eq_self, show ((315 : Int32) ≤ nI k) = False from eq_false (by rw [show (315 : Int32) = nI 315 from rfl, nI_le' (by decide) (by omega)]; omega), G.o, G.r24, G.t117, nL35, nI_1, vp_nI (show k < 350 by omega) (show 350 < 2 ^ 31 by decide), vp_nI (show k + 35 < 350 by omega) (show 350 < 2 ^ 31 by decide), nI_clamp (show k < 2 ^ 31 by omega), nI_clamp (show k + 35 < 2 ^ 31 by omega), e35]
        refine ih (k + 1) _ (by omega) (fun o ho => by rw [st_o ho, f1 o ho]) (fun j => ?_)
        by_cases z : j = k
        · subst z
          rw [st_at, if_pos (by omega)]
        · rw [st_k z, f2]
          by_cases z2 : j < k
          · rw [if_pos z2, if_pos (by omega)]
          · rw [if_neg z2, if_neg (by omega)]
    rw [z130_9, z130_10 rfl]
    exact loop 315 0 h rfl (fun _ _ => rfl) (fun j => by rw [if_neg (Nat.not_lt_zero j)])
/-- undone -/
def undoA (x : SX) : Int32 := if (xA x).length = 0 then -3 else nI ((xA x).length - 1)
def undoX (x : SX) : SX := match (xA x).getLast? with
  | none => x
  | some s => (xT x, s, xI x, (xA x).dropLast, xLo x, xHi x, xN x, xX x)
theorem lastG {l : List SS} (h : l.length ≠ 0) : ∃ s, l.getLast? = some s ∧ l[l.length - 1]? = some s := by
  cases hq : l.getLast? with
  | none => rw [List.getLast?_eq_none_iff] at hq; subst hq; exact absurd rfl h
  | some s => exact ⟨s, rfl, by rw [← List.getLast?_eq_getElem?]; exact hq⟩
theorem oC72 {x : SX} (O : okX x) : OpC 4 72 [] x (.int (undoA x)) (undoX x) := by
  intro d P g h ⟨rt, tt, q, G, C⟩ hP
  have hR := O.R
  have hl := O.2.2.2.1
  have e0 : ((0 : Int32) < nI (xA x).length) = (0 < (xA x).length) := nI_lt' (a := 0) (by decide) (by omega)
  simp only [e72, z72_0, z72_1, z72_4, z72_7, z72_10, z72_12, z72_13, z72_14, z72_17, z72_18, pv_catN, pv_cat1, pv_cat2, pv_cat3, pv_catL, Option.toList, List.nil_append, List.cons_append, List.append_nil, pv_rfS, pn_i, pn_r, pn_n, pn_o, true_and, and_true, Nat.le_refl, and_self, true_implies, false_implies, not_true_eq_false, not_false_eq_true, pv_b0, pv_b01, pv_bn0, pv_b1, Bool.false_eq_true, Bool.true_eq_false, Bool.not_false, Bool.not_true, pv_bT, pv_bF, eq_self, G.o0, G.r0_6, G.o25, G.r0_4, C.n, e0]
  refine ⟨fun c => ?_, fun c => ?_⟩
  · obtain ⟨s, hs1, hs2⟩ := lastG (l := xA x) (by omega)
    have hq := G.q4 (show (xA x).length - 1 < 10 by omega)
    have eU : undoX x = (xT x, s, xI x, (xA x).dropLast, xLo x, xHi x, xN x, xX x) := by
      unfold undoX
      rw [hs1]
    have eA : undoA x = nI ((xA x).length - 1) := if_neg (by omega)
    have es : nI (xA x).length - 1 = nI ((xA x).length - 1) := pk_sub (b := 1) (by omega)
    rw [eA, eU] at hP
    rw [z72_21 (by simp [pv_cat]) (by decide)]
    refine ⟨G.o25, ?_⟩
    have SA := C.A _ s hs2
    simp only [e3, z3_0, z3_1, z3_4, z3_7, z3_8, y3_8, z3_9, z3_12, z3_13, z3_14, z3_17, z3_18, z3_19, z3_22, z3_23, z3_26, pv_catN, pv_cat1, pv_cat2, pv_cat3, pv_catL, Option.toList, List.nil_append, List.cons_append, List.append_nil, pv_rfS, pn_i, pn_r, pn_n, pn_o, true_and, and_true, Nat.le_refl, and_self, true_implies, false_implies, not_true_eq_false, not_false_eq_true, pv_b0, pv_b01, pv_bn0, pv_b1, Bool.false_eq_true, Bool.true_eq_false, Bool.not_false, Bool.not_true, pv_bT, pv_bF, eq_self, G.o25, C.n, e0, c, es, st_at, G.r25_0, G.t26, vp_nI (show (xA x).length - 1 < 10 by omega) (show 10 < 2 ^ 31 by decide), nI_clamp (show (xA x).length - 1 < 2 ^ 31 by omega), G.q _ (show (xA x).length - 1 < 10 by omega), true_or, show ((xA x).length = 0) = False from eq_false (by omega), nI_le' (show (xA x).length < 2 ^ 31 by omega) (show 0 < 2 ^ 31 by decide)]
    have ele : (nI (xA x).length ≤ 0) = False := by
      rw [show (0 : Int32) = nI 0 from rfl, nI_le' (by omega) (by decide)]
      exact eq_false (by omega)
    simp only [ele, pv_catN, pv_cat1, pv_cat2, pv_cat3, pv_catL, Option.toList, List.nil_append, List.cons_append, List.append_nil, pv_rfS, pn_i, pn_r, pn_n, pn_o, true_and, and_true, Nat.le_refl, and_self, true_implies, false_implies, not_true_eq_false, not_false_eq_true, pv_b0, pv_b01, pv_bn0, pv_b1, Bool.false_eq_true, Bool.true_eq_false, Bool.not_false, Bool.not_true, pv_bT, pv_bF, eq_self]
    rw [z3_27 (by simp [pv_cat]) (by decide)]
    refine ⟨G.S20.1, m40 G.S20 (G.qS (by omega)) (SA.fr (st_o (by omega)) (st_o (by omega)) (st_o (by omega)) (st_o (by omega))) hR (by omega) fun h2 f2 S2 => ?_⟩
    have e25 : h2 25 1 = nI ((xA x).length - 1) := by rw [f2 25 (by omega), st_at]
    simp only [z3_30, z72_24, z72_25, z72_28, z72_31, pv_catN, pv_cat1, pv_cat2, pv_cat3, pv_catL, Option.toList, List.nil_append, List.cons_append, List.append_nil, pv_rfS, pn_i, pn_r, pn_n, pn_o, true_and, and_true, Nat.le_refl, and_self, true_implies, false_implies, not_true_eq_false, not_false_eq_true, pv_b0, pv_b01, pv_bn0, pv_b1, Bool.false_eq_true, Bool.true_eq_false, Bool.not_false, Bool.not_true, pv_bT, pv_bF, eq_self, G.o0, G.r0_6, G.o25, e25]
    refine hP g h2 ⟨rt, tt, q, G, ?_⟩ FG.rf (fun o ho => by rw [f2 o (by omega), st_o (by omega)])
    have C1 := cC.now (s' := s) G C O (h' := fun o => if 20 ≤ o ∧ o ≤ 23 then h2 o else h o) (fun o h1 h2 h3 h4 => if_neg (by omega)) (S2.fr (if_pos (by omega)) (if_pos (by omega)) (if_pos (by omega)) (if_pos (by omega)))
    refine cC.acts (x := (xT x, s, xI x, xA x, xLo x, xHi x, xN x, xX x)) G C1 (fun o ho => ?_) ?_ (fun i s' hs => ?_)
    · by_cases z : 20 ≤ o ∧ o ≤ 23
      · rw [if_pos z]
      · rw [if_neg z, f2 o (by omega), st_o (by omega)]
    · rw [e25, List.length_dropLast]
    · have hi : i < (xA x).length - 1 := by
        have := (List.getElem?_eq_some_iff.mp hs).1
        rw [List.length_dropLast] at this
        exact this
      rw [List.getElem?_dropLast, if_pos hi] at hs
      have q5 := G.q4 (show i < 10 by omega)
      exact (C.A i s' hs).fr (by rw [f2 _ (by omega), st_o (by omega)]) (by rw [f2 _ (by omega), st_o (by omega)]) (by rw [f2 _ (by omega), st_o (by omega)]) (by rw [f2 _ (by omega), st_o (by omega)])
  · have c : (xA x).length = 0 := by omega
    have eU : undoX x = x := by
      unfold undoX
      have : xA x = [] := List.eq_nil_of_length_eq_zero c
      rw [this]
      rfl
    have eA : undoA x = -3 := if_pos c
    rw [eA, eU] at hP
    exact hP g h ⟨rt, tt, q, G, C⟩ FG.rf FC.rf
theorem oM138 {x : SX} (O : okX x) : OpM 2 138 [] x (.int (undoA x)) (undoX x) := by
  intro d P g h ⟨G, M0⟩ hP
  have M := M0.t0
  have hR := O.R
  have hl := O.2.2.2.1
  have e0 : (nI (xA x).length = 0) = ((xA x).length = 0) := nI_eq' (b := 0) (by omega) (by decide)
  simp only [e138, z138_0, z138_1, z138_2, z138_5, z138_6, z138_9, z138_12, z138_14, z138_15, y138_16, pv_catN, pv_cat1, pv_cat2, pv_cat3, pv_catL, Option.toList, List.nil_append, List.cons_append, List.append_nil, pv_rfS, pn_i, pn_r, pn_n, pn_o, true_and, and_true, Nat.le_refl, and_self, true_implies, false_implies, not_true_eq_false, not_false_eq_true, pv_b0, pv_b01, pv_bn0, pv_b1, Bool.false_eq_true, Bool.true_eq_false, Bool.not_false, Bool.not_true, pv_bT, pv_bF, eq_self, G.o, M.n, e0]
  refine ⟨fun c => ?_, fun c => ?_⟩
  · obtain ⟨s, hs1, hs2⟩ := lastG c
    have eU : undoX x = (xT x, s, xI x, (xA x).dropLast, xLo x, xHi x, xN x, xX x) := by
      unfold undoX
      rw [hs1]
    have eA : undoA x = nI ((xA x).length - 1) := if_neg c
    have es : nI (xA x).length - 1 = nI ((xA x).length - 1) := pk_sub (b := 1) (by omega)
    rw [eA, eU] at hP
    simp only [z138_17, z138_20, z138_21, z138_22, z138_25, z138_26, z138_27, z138_30, z138_32, z138_33, z138_36, pv_catN, pv_cat1, pv_cat2, pv_cat3, pv_catL, Option.toList, List.nil_append, List.cons_append, List.append_nil, pv_rfS, pn_i, pn_r, pn_n, pn_o, true_and, and_true, Nat.le_refl, and_self, true_implies, false_implies, not_true_eq_false, not_false_eq_true, pv_b0, pv_b01, pv_bn0, pv_b1, Bool.false_eq_true, Bool.true_eq_false, Bool.not_false, Bool.not_true, pv_bT, pv_bF, eq_self, G.o, M.n, es, st_at, G.r24, L35]
    rw [z138_37 (by simp [pv_cat]) (by decide)]
    generalize hh : pv_st h 102 0 0 = h0 at M
    have F0 : FM h h0 := hh ▸ FM.rf.st (by omega)
    refine ⟨G.o, m129 (s := s) (R := tR (xT x)) G hR (n := 350) ?_ G.t117 (by omega) (by omega) (Or.inl rfl) fun h' f1 f2 c1 c2 c3 c4 c5 c6 c7 => ?_⟩
    · exact (M.A _ s hs2).fr hR (fun k hk => by rw [st_o (by omega)])
    · have e25 : h' 102 25 = nI ((xA x).length - 1) := by rw [f2 25 (by omega) (by omega) (by omega), st_at]
      simp only [z138_0, z138_1, z138_2, z138_5, z138_6, z138_9, z138_12, z138_14, z138_15, z138_16, y138_16, z138_17, z138_20, z138_21, z138_22, z138_25, z138_26, z138_27, z138_30, z138_32, z138_33, z138_36, z138_37, z138_40, z138_41, z138_44, pv_catN, pv_cat1, pv_cat2, pv_cat3, pv_catL, Option.toList, List.nil_append, List.cons_append, List.append_nil, pv_rfS, pn_i, pn_r, pn_n, pn_o, true_and, and_true, Nat.le_refl, and_self, true_implies, false_implies, not_true_eq_false, not_false_eq_true, pv_b0, pv_b01, pv_bn0, pv_b1, Bool.false_eq_true, Bool.true_eq_false, Bool.not_false, Bool.not_true, pv_bT, pv_bF, eq_self, G.o, e25]
      refine hP h' ⟨G, ?_⟩ (fun o ho => by rw [f1 o (by omega) (by omega) (by omega) (by omega) (by omega), st_o (by omega)]; exact F0 o ho)
      have M1 : cD (fun o k => if o = 102 ∧ k = 25 then nI (xA x).length else h' o k) (setNow x s) := by
        refine cM.now M (fun o h1 h2 h3 h4 h5 => funext fun k => ?_) (fun k hk => ?_) ?_ ?_ ?_ ?_ ?_ ?_ ?_
        · show (if o = 102 ∧ k = 25 then _ else h' o k) = _
          rw [if_neg (by omega), f1 o (by omega) h2 h3 h4 h5, st_o (by omega)]
        · show (if 102 = 102 ∧ k = 25 then _ else h' 102 k) = _
          by_cases z : k = 25
          · subst z; rw [if_pos ⟨rfl, rfl⟩]; exact M.n.symm
          · rw [if_neg (by omega), f2 k (by omega) (by omega) (by omega), st_k z]
        · intro r hr; show (if 106 = 102 ∧ r = 25 then _ else h' 106 r) = _; rw [if_neg (by omega)]; exact c1 r hr
        · intro r hr; show (if 108 = 102 ∧ r = 25 then _ else h' 108 r) = _; rw [if_neg (by omega)]; exact c2 r hr
        · intro r hr; show (if 109 = 102 ∧ r = 25 then _ else h' 109 r) = _; rw [if_neg (by omega)]; exact c3 r hr
        · intro r hr; show (if 110 = 102 ∧ r = 25 then _ else h' 110 r) = _; rw [if_neg (by omega)]; exact c4 r hr
        · show (if 102 = 102 ∧ 15 = 25 then _ else h' 102 15) = _; rw [if_neg (by omega)]; exact c5
        · show (if 102 = 102 ∧ 16 = 25 then _ else h' 102 16) = _; rw [if_neg (by omega)]; exact c6
        · show (if 102 = 102 ∧ 17 = 25 then _ else h' 102 17) = _; rw [if_neg (by omega)]; exact c7
      refine cD.acts (x := setNow x s) M1 (fun o h1 h2 => funext fun k => ?_) (fun k hk => ?_) ?_ (fun i s' hs => ?_)
      · show _ = (if o = 102 ∧ k = 25 then _ else h' o k)
        rw [if_neg (by omega)]
      · show _ = (if 102 = 102 ∧ k = 25 then _ else h' 102 k)
        rw [if_neg (by omega)]
      · rw [e25, List.length_dropLast]
      · have hi : i < (xA x).length - 1 := by
          have := (List.getElem?_eq_some_iff.mp hs).1
          rw [List.length_dropLast] at this
          exact this
        rw [List.getElem?_dropLast, if_pos hi] at hs
        refine (M.A i s' hs).fr hR (fun k hk => ?_)
        rw [f1 117 (by omega) (by omega) (by omega) (by omega) (by omega), st_o (by omega)]
  · have c : (xA x).length = 0 := Classical.byContradiction c
    have eU : undoX x = x := by
      unfold undoX
      have : xA x = [] := List.eq_nil_of_length_eq_zero c
      rw [this]
      rfl
    have eA : undoA x = -3 := if_pos c
    rw [eA, eU] at hP
    exact hP _ ⟨G, M⟩ (FM.rf.st (by omega))
