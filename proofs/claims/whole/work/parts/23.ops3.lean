/-! OPERATIONS: effort, index -/
/-- the class's relation, with one of now's numbers written -/
theorem cC.now {h : PvH} {g : PvG} {rt tt : Nat} {q : Nat → Nat} {x : SX} (G : gC g rt tt q) (C : cC h rt q x) (O : okX x) {h' : PvH} {s' : SS} (hf : ∀ o, o ≠ 20 → o ≠ 21 → o ≠ 22 → o ≠ 23 → h' o = h o) (S : cS h' 20 (tR (xT x)) s') : cC h' rt q (xT x, s', xI x, xA x, xLo x, xHi x, xN x, xX x) := by
  obtain ⟨T, S0, X, n, A, lo, hi, N, Y, z, zl⟩ := C
  have G4 := G.rt
  refine ⟨T.fr (fun a h1 h2 => hf a (by omega) (by omega) (by omega) (by omega)), S, ?_, ?_, ?_, lo.fr ?_ (hf 68 (by omega) (by omega) (by omega) (by omega)) (hf 69 (by omega) (by omega) (by omega) (by omega)) (hf 70 (by omega) (by omega) (by omega) (by omega)) (hf 71 (by omega) (by omega) (by omega) (by omega)) (hf 72 (by omega) (by omega) (by omega) (by omega)), hi.fr ?_ (hf 74 (by omega) (by omega) (by omega) (by omega)) (hf 75 (by omega) (by omega) (by omega) (by omega)) (hf 76 (by omega) (by omega) (by omega) (by omega)) (hf 77 (by omega) (by omega) (by omega) (by omega)) (hf 78 (by omega) (by omega) (by omega) (by omega)), ?_, ?_, ?_, ?_⟩
  · rw [hf 24 (by omega) (by omega) (by omega) (by omega)]; exact X
  · rw [hf 25 (by omega) (by omega) (by omega) (by omega)]; exact n
  · intro i s hs
    have hi10 : i < 10 := Nat.lt_of_lt_of_le (List.getElem?_eq_some_iff.mp hs).1 O.2.2.2.1
    have q4 := G.q4 hi10
    exact (A i s hs).fr (hf _ (by omega) (by omega) (by omega) (by omega)) (hf _ (by omega) (by omega) (by omega) (by omega)) (hf _ (by omega) (by omega) (by omega) (by omega)) (hf _ (by omega) (by omega) (by omega) (by omega))
  · rw [hf 67 (by omega) (by omega) (by omega) (by omega)]
  · rw [hf 73 (by omega) (by omega) (by omega) (by omega)]
  · rw [hf 0 (by omega) (by omega) (by omega) (by omega)]; exact N
  · rw [hf 1 (by omega) (by omega) (by omega) (by omega)]; exact Y
  · rw [hf 100 (by omega) (by omega) (by omega) (by omega)]; exact z
  · intro e f he hf'
    rw [hf _ (by omega) (by omega) (by omega) (by omega)]; exact zl e f he hf'
def setNow (x : SX) (s : SS) : SX := (xT x, s, xI x, xA x, xLo x, xHi x, xN x, xX x)
def efS (s : SS) (e : Nat) : SS := (sP s, sV s, sK s, sD s, sH s, e, sL s + e - sE s)
def effA (x : SX) (a : Int32) : Int32 := if inr a 100 then nI (sE (xS x)) else -2
def effX (x : SX) (a : Int32) : SX := if inr a 100 then setNow x (efS (xS x) a.toNatClampNeg) else x
theorem nI_subZ {a b : Nat} (ha : a < 2 ^ 30) (hb : b < 2 ^ 30) : (if (0 : Int32) < nI a - nI b then nI a - nI b else 0) = nI (a - b) := by
  rcases Nat.lt_or_ge b a with z | z
  · rw [pk_sub (by omega), if_pos]
    rw [show (0 : Int32) = nI 0 from rfl, nI_lt' (by decide) (by omega)]
    omega
  · rw [show a - b = 0 by omega]
    rw [if_neg]
    · rfl
    · rcases Nat.eq_or_lt_of_le z with e | e
      · rw [e, pk_sub (Nat.le_refl _), Nat.sub_self]; decide
      · have := pk_sneg hb (by omega : a < b)
        intro q
        rw [Int32.lt_iff_toInt_lt] at this q
        exact absurd q (by omega)
theorem oC67 {x : SX} (O : okX x) (a : Int32) : OpC 1 67 [.int a] x (.int (effA x a)) (effX x a) := by
  intro d P g h ⟨rt, tt, q, G, C⟩ hP
  have hE := O.S.2.2.2.1
  have hL := O.S.2.2.2.2.1
  unfold effA effX at hP
  cases hI : inr a 100 with
  | false =>
    have h1 : a < 0 ∨ (99 : Int32) < a := by
      have := of_decide_eq_false hI
      rw [lt0, show (99 : Int32) = nI 99 from rfl, lt_nI (by decide)]
      omega
    rw [hI] at hP
    have hP := hP g h ⟨rt, tt, q, G, C⟩ FG.rf FC.rf
    simp only [e67, z67_0, z67_1, z67_4, z67_5, z67_7, z67_10, z67_12, z67_13, z67_14, z67_17, z67_20, z67_21, z67_22, z67_25, z67_26, z67_29, z67_30, z67_33, z67_34, z67_35, z67_38, z67_41, z67_42, z67_43, z67_44, z67_45, z67_48, z67_51, z67_52, pv_catN, pv_cat1, pv_cat2, pv_cat3, pv_catL, Option.toList, List.nil_append, List.cons_append, List.append_nil, pv_rfS, pn_i, pn_r, pn_n, pn_o, true_and, and_true, Nat.le_refl, and_self, true_implies, false_implies, not_true_eq_false, not_false_eq_true, pv_b0, pv_b01, pv_bn0, pv_b1, Bool.false_eq_true, Bool.true_eq_false, Bool.not_false, Bool.not_true, pv_bT, pv_bF, eq_self]
    refine ⟨fun _ => hP, fun c1 => ⟨fun c2 => ?_, fun c2 => ?_⟩⟩
    · rcases h1 with z | z
      · exact absurd z c1
      · exact absurd c2 (Int32.not_le.mpr z)
    · exact hP
  | true =>
    obtain ⟨e, he, rfl⟩ := inr_t hI
    rw [hI, nI_clamp (by omega)] at hP
    simp only [e67, z67_0, z67_1, z67_4, z67_5, z67_7, z67_10, z67_12, z67_13, z67_14, z67_17, z67_20, z67_21, z67_22, z67_25, z67_26, z67_29, z67_30, z67_33, z67_34, z67_35, z67_38, z67_41, z67_42, z67_43, z67_44, z67_45, z67_48, z67_51, z67_52, pv_catN, pv_cat1, pv_cat2, pv_cat3, pv_catL, Option.toList, List.nil_append, List.cons_append, List.append_nil, pv_rfS, pn_i, pn_r, pn_n, pn_o, true_and, and_true, Nat.le_refl, and_self, true_implies, false_implies, not_true_eq_false, not_false_eq_true, pv_b0, pv_b01, pv_bn0, pv_b1, Bool.false_eq_true, Bool.true_eq_false, Bool.not_false, Bool.not_true, pv_bT, pv_bF, eq_self, lt0, nI_toInt (show e < 2 ^ 31 by omega), show ((e : Int) < 0) = False from eq_false (by omega), show (99 : Int32) = nI 99 from rfl, nI_le' (show e < 2 ^ 31 by omega) (show 99 < 2 ^ 31 by decide), show (e ≤ 99) = True from eq_true (by omega), G.o0, G.r0_4, G.S20.1, C.S.2.2.2.2.2.1]
    have e6 : pv_st h 20 5 (nI e) 20 6 = nI (sL (xS x)) := by rw [st_k (by omega)]; exact C.S.2.2.2.2.2.2
    rw [e6, nI_add, nI_subZ (by omega) (by omega)]
    refine hP _ _ ⟨rt, tt, q, G, cC.now (s' := efS (xS x) e) G C O (fun o h1 _ _ _ => by rw [st_o h1, st_o h1]) ?_⟩ FG.rf ((FC.rf.st (by omega)).st (by omega))
    obtain ⟨s1, s2, s3, s4, s5, s6, s7⟩ := C.S
    exact ⟨s1, s2, s3, s4, s5, by rw [st_k (by omega), st_at]; rfl, by rw [st_at]; rfl⟩
theorem cM.now {h h' : PvH} {x : SX} (M : cD h x) {s' : SS} (hf : ∀ o, 103 ≤ o → o ≠ 106 → o ≠ 108 → o ≠ 109 → o ≠ 110 → h' o = h o) (hk : ∀ k, k = 2 ∨ k = 4 ∨ k = 6 ∨ k = 25 → h' 102 k = h 102 k) (m5 : ∀ r, r < tR (xT x) → h' 106 r = nI (sV s' r)) (m7 : ∀ r, r < tR (xT x) → h' 108 r = nI (sK s' r)) (m8 : ∀ r, r < tR (xT x) → h' 109 r = nI (sP s' r)) (m9 : ∀ r, r < tR (xT x) → h' 110 r = pv_b ((sD s').testBit r)) (m12 : h' 102 15 = nI (sH s')) (m13 : h' 102 16 = nI (sE s')) (m14 : h' 102 17 = nI (sL s')) : cD h' (setNow x s') := by
  obtain ⟨⟨a1, a2, a3, a4, a5, a6, a7, a8, a9, a10, a11, a12, a13, a14⟩, n, A, ⟨l1, l2⟩, ⟨i1, i2⟩, N, Y⟩ := M
  have ho : ∀ o, 103 ≤ o → o ≠ 106 → o ≠ 108 → o ≠ 109 → o ≠ 110 → h' o = h o := hf
  refine ⟨⟨?_, ?_, ?_, ?_, m5, ?_, m7, m8, m9, ?_, ?_, m12, m13, m14⟩, ?_, ?_, ⟨?_, ?_⟩, ⟨?_, ?_⟩, ?_, ?_⟩
  · rw [hk 4 (by omega)]; exact a1
  · rw [ho 104 (by omega) (by omega) (by omega) (by omega) (by omega)]; exact a2
  · rw [hk 6 (by omega)]; exact a3
  · rw [ho 105 (by omega) (by omega) (by omega) (by omega) (by omega)]; exact a4
  · rw [ho 107 (by omega) (by omega) (by omega) (by omega) (by omega)]; exact a6
  · rw [ho 111 (by omega) (by omega) (by omega) (by omega) (by omega)]; exact a10
  · rw [ho 112 (by omega) (by omega) (by omega) (by omega) (by omega)]; exact a11
  · rw [hk 25 (by omega)]; exact n
  · intro i s hs
    have := A i s hs
    unfold cP at this ⊢
    rw [ho 117 (by omega) (by omega) (by omega) (by omega) (by omega)]; exact this
  · rw [ho 119 (by omega) (by omega) (by omega) (by omega) (by omega)]; exact l1
  · intro s ix hs
    have := l2 s ix hs
    unfold cP at this ⊢
    rw [ho 118 (by omega) (by omega) (by omega) (by omega) (by omega)]; exact this
  · rw [ho 119 (by omega) (by omega) (by omega) (by omega) (by omega)]; exact i1
  · intro s ix hs
    have := i2 s ix hs
    unfold cP at this ⊢
    rw [ho 118 (by omega) (by omega) (by omega) (by omega) (by omega)]; exact this
  · rw [hk 2 (by omega)]; exact N
  · rw [ho 103 (by omega) (by omega) (by omega) (by omega) (by omega)]; exact Y
theorem in99 {a : Int32} : decide ((0 : Int64) ≤ a.toInt64 ∧ a.toInt64 ≤ 99) = inr a 100 := by
  unfold inr
  apply decide_eq_decide.mpr
  rw [Int64.le_iff_toInt_le, Int64.le_iff_toInt_le, l64]
  show (0 ≤ a.toInt ∧ a.toInt ≤ 99) ↔ _
  omega
theorem oM127 {x : SX} (O : okX x) (a : Int32) : OpM 2 127 [.int a] x (.int (effA x a)) (effX x a) := by
  intro d P g h ⟨G, M0⟩ hP
  have M := M0.t0
  have hE := O.S.2.2.2.1
  have hL := O.S.2.2.2.2.1
  unfold effA effX at hP
  cases hI : inr a 100 with
  | false =>
    rw [hI] at hP
    have hP := hP _ ⟨G, M⟩ (FM.rf.st (by omega))
    simp only [e127, z127_0, z127_1, z127_2, z127_5, z127_6, z127_7, z127_8, z127_11, z127_14, z127_17, z127_19, z127_20, z127_21, z127_24, z127_25, z127_26, z127_27, z127_30, z127_31, y127_31, z127_32, z127_35, z127_36, z127_37, z127_38, z127_39, z127_42, z127_43, z127_44, z127_47, z127_50, z127_51, z127_54, z127_55, z127_58, z127_61, z127_62, pv_catN, pv_cat1, pv_cat2, pv_cat3, pv_catL, Option.toList, List.nil_append, List.cons_append, List.append_nil, pv_rfS, pn_i, pn_r, pn_n, pn_o, true_and, and_true, Nat.le_refl, and_self, true_implies, false_implies, not_true_eq_false, not_false_eq_true, pv_b0, pv_b01, pv_bn0, pv_b1, Bool.false_eq_true, Bool.true_eq_false, Bool.not_false, Bool.not_true, pv_bT, pv_bF, eq_self, G.o, m100, in99, hI]
    exact hP
  | true =>
    obtain ⟨e, he, rfl⟩ := inr_t hI
    rw [hI, nI_clamp (by omega)] at hP
    generalize hh : pv_st h 102 0 0 = h1 at M
    have F1 : FM h h1 := hh ▸ FM.rf.st (by omega)
    have e17 : pv_st h1 102 16 (nI e) 102 17 = nI (sL (xS x)) := by rw [st_k (by omega)]; exact M.M.L
    have key : (if (0 : Int32) ≤ nI (sL (xS x)) + (nI e - nI (sE (xS x))) then nI (sL (xS x)) + (nI e - nI (sE (xS x))) else 0) = nI (sL (xS x) + e - sE (xS x)) := by
      rw [← nI_subZ (a := sL (xS x) + e) (by omega) (by omega), ← nI_add]
      have e1 : nI (sL (xS x)) + (nI e - nI (sE (xS x))) = nI (sL (xS x)) + nI e - nI (sE (xS x)) := by
        simp only [Int32.sub_eq_add_neg, Int32.add_assoc]
      rw [e1]
      by_cases c0 : (0 : Int32) < nI (sL (xS x)) + nI e - nI (sE (xS x))
      · rw [if_pos c0, if_pos (Int32.le_of_lt c0)]
      · rw [if_neg c0]
        by_cases c1 : (0 : Int32) ≤ nI (sL (xS x)) + nI e - nI (sE (xS x))
        · rw [if_pos c1]
          exact (Int32.le_antisymm c1 (Int32.not_lt.mp c0)).symm
        · rw [if_neg c1]
    have fin : ∀ v : Int32, v = nI (sL (xS x) + e - sE (xS x)) → P (some (.int (nI (sE (xS x))))) g (pv_st (pv_st (pv_st h1 102 16 (nI e)) 102 17 (nI (sL (xS x)) + (nI e - nI (sE (xS x))))) 102 17 v) := by
      intro v hv
      subst hv
      refine hP _ ⟨G, cM.now (s' := efS (xS x) e) M (fun o h1 _ _ _ _ => by rw [st_o (by omega), st_o (by omega), st_o (by omega)]) (fun k hk => by rw [st_k (by omega), st_k (by omega), st_k (by omega)]) ?_ ?_ ?_ ?_ ?_ ?_ ?_⟩ (((F1.st (by omega)).st (by omega)).st (by omega))
      · exact M.M.V
      · exact M.M.K
      · exact M.M.P
      · exact M.M.D
      · rw [st_k (by omega), st_k (by omega), st_k (by omega)]; exact M.M.H
      · rw [st_k (by omega), st_k (by omega), st_at]; rfl
      · rw [st_at]; rfl
    simp only [e127, z127_0, z127_1, z127_2, z127_5, z127_6, z127_7, z127_8, z127_11, z127_14, z127_17, z127_19, z127_20, z127_21, z127_24, z127_25, z127_26, z127_27, z127_30, z127_31, y127_31, z127_32, z127_35, z127_36, z127_37, z127_38, z127_39, z127_42, z127_43, z127_44, z127_47, z127_50, z127_51, z127_54, z127_55, z127_58, z127_61, z127_62, pv_catN, pv_cat1, pv_cat2, pv_cat3, pv_catL, Option.toList, List.nil_append, List.cons_append, List.append_nil, pv_rfS, pn_i, pn_r, pn_n, pn_o, true_and, and_true, Nat.le_refl, and_self, true_implies, false_implies, not_true_eq_false, not_false_eq_true, pv_b0, pv_b01, pv_bn0, pv_b1, Bool.false_eq_true, Bool.true_eq_false, Bool.not_false, Bool.not_true, pv_bT, pv_bF, eq_self, G.o, m100, in99, hI, hh, M.M.E, e17, st_at]
    refine ⟨fun c => ?_, fun c => ?_⟩
    · refine fin _ ?_
      rw [← key, if_pos c]
    · refine fin _ ?_
      rw [← key, if_neg c]
def idxA (x : SX) (a b : Int32) : Int32 := if inr a (tR (xT x)) && inr b (tF (xT x)) then nI (xI x a.toNatClampNeg) else -1
def updN (f : Nat → Nat) (k v : Nat) : Nat → Nat := fun j => if j = k then v else f j
def idxX (x : SX) (a b : Int32) : SX := if inr a (tR (xT x)) && inr b (tF (xT x)) then (xT x, xS x, updN (xI x) a.toNatClampNeg b.toNatClampNeg, xA x, xLo x, xHi x, xN x, xX x) else x
theorem oC77 {x : SX} (O : okX x) (a b : Int32) : OpC 2 77 [.int a, .int b] x (.int (idxA x a b)) (idxX x a b) := by
  intro d P g h ⟨rt, tt, q, G, C⟩ hP
  have hR := O.R
  unfold idxA idxX at hP
  cases hI : inr a (tR (xT x)) with
  | false =>
    simp only [hI, Bool.false_and] at hP
    have hP := hP g h ⟨rt, tt, q, G, C⟩ FG.rf FC.rf
    simp only [e77, z77_0, z77_1, z77_2, z77_5, z77_8, z77_9, z77_10, z77_13, z77_16, z77_17, z77_18, z77_19, z77_22, z77_23, z77_24, z77_25, z77_26, z77_29, z77_30, z77_31, z77_32, z77_33, pv_catN, pv_cat1, pv_cat2, pv_cat3, pv_catL, Option.toList, List.nil_append, List.cons_append, List.append_nil, pv_rfS, pn_i, pn_r, pn_n, pn_o, true_and, and_true, Nat.le_refl, and_self, true_implies, false_implies, not_true_eq_false, not_false_eq_true, pv_b0, pv_b01, pv_bn0, pv_b1, Bool.false_eq_true, Bool.true_eq_false, Bool.not_false, Bool.not_true, pv_bT, pv_bF, eq_self, G.o0, m86 G C O, hI]
    exact hP
  | true =>
    cases hJ : inr b (tF (xT x)) with
    | false =>
      simp only [hI, hJ, Bool.and_false] at hP
      have hP := hP g h ⟨rt, tt, q, G, C⟩ FG.rf FC.rf
      simp only [e77, z77_0, z77_1, z77_2, z77_5, z77_8, z77_9, z77_10, z77_13, z77_16, z77_17, z77_18, z77_19, z77_22, z77_23, z77_24, z77_25, z77_26, z77_29, z77_30, z77_31, z77_32, z77_33, pv_catN, pv_cat1, pv_cat2, pv_cat3, pv_catL, Option.toList, List.nil_append, List.cons_append, List.append_nil, pv_rfS, pn_i, pn_r, pn_n, pn_o, true_and, and_true, Nat.le_refl, and_self, true_implies, false_implies, not_true_eq_false, not_false_eq_true, pv_b0, pv_b01, pv_bn0, pv_b1, Bool.false_eq_true, Bool.true_eq_false, Bool.not_false, Bool.not_true, pv_bT, pv_bF, eq_self, G.o0, m86 G C O, m85 G C O, hI, hJ]
      exact hP
    | true =>
      obtain ⟨r, hr, rfl⟩ := inr_t hI
      obtain ⟨f, hf, rfl⟩ := inr_t hJ
      have hF := O.F
      have hc := nI_clamp (show r < 2 ^ 31 by omega)
      simp only [e77, z77_0, z77_1, z77_2, z77_5, z77_8, z77_9, z77_10, z77_13, z77_16, z77_17, z77_18, z77_19, z77_22, z77_23, z77_24, z77_25, z77_26, z77_29, z77_30, z77_31, z77_32, z77_33, pv_catN, pv_cat1, pv_cat2, pv_cat3, pv_catL, Option.toList, List.nil_append, List.cons_append, List.append_nil, pv_rfS, pn_i, pn_r, pn_n, pn_o, true_and, and_true, Nat.le_refl, and_self, true_implies, false_implies, not_true_eq_false, not_false_eq_true, pv_b0, pv_b01, pv_bn0, pv_b1, Bool.false_eq_true, Bool.true_eq_false, Bool.not_false, Bool.not_true, pv_bT, pv_bF, eq_self, G.o0, m86 G C O, m85 G C O, hI, hJ, G.r0_5, G.t24, vp_nI (show r < 8 by omega) (show 8 < 2 ^ 31 by decide), hc, C.X r hr]
      simp only [hI, hJ, Bool.and_true, if_true, hc, nI_clamp (show f < 2 ^ 31 by omega)] at hP
      refine hP _ _ ⟨rt, tt, q, G, ?_⟩ FG.rf (FC.rf.st (by omega))
      have G4 := G.rt
      obtain ⟨T, S, X, n, A, lo, hi, N, Y, z, zl⟩ := C
      refine ⟨T.fr (fun a h1 h2 => st_o (by omega)), S.fr (st_o (by omega)) (st_o (by omega)) (st_o (by omega)) (st_o (by omega)), ?_, ?_, ?_, lo.fr ?_ (st_o (by omega)) (st_o (by omega)) (st_o (by omega)) (st_o (by omega)) (st_o (by omega)), hi.fr ?_ (st_o (by omega)) (st_o (by omega)) (st_o (by omega)) (st_o (by omega)) (st_o (by omega)), ?_, ?_, ?_, ?_⟩
      · intro j hj
        show pv_st h 24 r (nI f) 24 j = nI (updN (xI x) r f j)
        unfold updN
        by_cases e : j = r
        · subst e; rw [st_at, if_pos rfl]
        · rw [st_k e, if_neg e]; exact X j hj
      · rw [st_o (by omega)]; exact n
      · intro i s hs
        have hi10 : i < 10 := Nat.lt_of_lt_of_le (List.getElem?_eq_some_iff.mp hs).1 O.2.2.2.1
        have q4 := G.q4 hi10
        exact (A i s hs).fr (st_o (by omega)) (st_o (by omega)) (st_o (by omega)) (st_o (by omega))
      · rw [st_o (by omega)]
      · rw [st_o (by omega)]
      · rw [st_o (by omega)]; exact N
      · rw [st_o (by omega)]; exact Y
      · rw [st_o (by omega)]; exact z
      · intro e f he hf
        rw [st_o (by omega)]; exact zl e f he hf
theorem oM153 {x : SX} (O : okX x) (a b : Int32) : OpM 3 153 [.int a, .int b] x (.int (idxA x a b)) (idxX x a b) := by
  intro d P g h ⟨G, M0⟩ hP
  have M := M0.t0
  have hR := O.R
  unfold idxA idxX at hP
  cases hI : inr a (tR (xT x)) with
  | false =>
    simp only [hI, Bool.false_and] at hP
    have hP := hP _ ⟨G, M⟩ (FM.rf.st (by omega))
    simp only [e153, z153_0, z153_1, z153_2, z153_5, z153_6, z153_7, z153_10, z153_13, z153_14, z153_15, z153_18, z153_21, z153_22, z153_23, z153_24, z153_27, z153_28, z153_29, z153_30, z153_31, z153_34, z153_35, z153_36, z153_37, z153_38, pv_catN, pv_cat1, pv_cat2, pv_cat3, pv_catL, Option.toList, List.nil_append, List.cons_append, List.append_nil, pv_rfS, pn_i, pn_r, pn_n, pn_o, true_and, and_true, Nat.le_refl, and_self, true_implies, false_implies, not_true_eq_false, not_false_eq_true, pv_b0, pv_b01, pv_bn0, pv_b1, Bool.false_eq_true, Bool.true_eq_false, Bool.not_false, Bool.not_true, pv_bT, pv_bF, eq_self, G.o, m102 G M O, hI]
    exact hP
  | true =>
    cases hJ : inr b (tF (xT x)) with
    | false =>
      simp only [hI, hJ, Bool.and_false] at hP
      have hP := hP _ ⟨G, M⟩ (FM.rf.st (by omega))
      simp only [e153, z153_0, z153_1, z153_2, z153_5, z153_6, z153_7, z153_10, z153_13, z153_14, z153_15, z153_18, z153_21, z153_22, z153_23, z153_24, z153_27, z153_28, z153_29, z153_30, z153_31, z153_34, z153_35, z153_36, z153_37, z153_38, pv_catN, pv_cat1, pv_cat2, pv_cat3, pv_catL, Option.toList, List.nil_append, List.cons_append, List.append_nil, pv_rfS, pn_i, pn_r, pn_n, pn_o, true_and, and_true, Nat.le_refl, and_self, true_implies, false_implies, not_true_eq_false, not_false_eq_true, pv_b0, pv_b01, pv_bn0, pv_b1, Bool.false_eq_true, Bool.true_eq_false, Bool.not_false, Bool.not_true, pv_bT, pv_bF, eq_self, G.o, m102 G M O, m103 G M O, hI, hJ]
      exact hP
    | true =>
      obtain ⟨r, hr, rfl⟩ := inr_t hI
      obtain ⟨f, hf, rfl⟩ := inr_t hJ
      have hF := O.F
      have hc := nI_clamp (show r < 2 ^ 31 by omega)
      simp only [e153, z153_0, z153_1, z153_2, z153_5, z153_6, z153_7, z153_10, z153_13, z153_14, z153_15, z153_18, z153_21, z153_22, z153_23, z153_24, z153_27, z153_28, z153_29, z153_30, z153_31, z153_34, z153_35, z153_36, z153_37, z153_38, pv_catN, pv_cat1, pv_cat2, pv_cat3, pv_catL, Option.toList, List.nil_append, List.cons_append, List.append_nil, pv_rfS, pn_i, pn_r, pn_n, pn_o, true_and, and_true, Nat.le_refl, and_self, true_implies, false_implies, not_true_eq_false, not_false_eq_true, pv_b0, pv_b01, pv_bn0, pv_b1, Bool.false_eq_true, Bool.true_eq_false, Bool.not_false, Bool.not_true, pv_bT, pv_bF, eq_self, G.o, m102 G M O, m103 G M O, hI, hJ, G.r13, G.t111, vp_nI (show r < 8 by omega) (show 8 < 2 ^ 31 by decide), hc, M.M.X r hr]
      simp only [hI, hJ, Bool.and_true, if_true, hc, nI_clamp (show f < 2 ^ 31 by omega)] at hP
      generalize hh : pv_st h 102 0 0 = h1 at M
      have F1 : FM h h1 := hh ▸ FM.rf.st (by omega)
      refine hP _ ⟨G, ?_⟩ (F1.st (by omega))
      obtain ⟨⟨a1, a2, a3, a4, a5, a6, a7, a8, a9, a10, a11, a12, a13, a14⟩, n, A, lo, hi, N, Y⟩ := M
      refine ⟨⟨?_, a2, ?_, a4, a5, a6, a7, a8, a9, ?_, a11, a12, a13, a14⟩, n, A, lo, hi, N, Y⟩
      · exact a1
      · exact a3
      · intro j hj
        show pv_st h1 111 r (nI f) 111 j = nI (updN (xI x) r f j)
        unfold updN
        by_cases e : j = r
        · subst e; rw [st_at, if_pos rfl]
        · rw [st_k e, if_neg e]; exact a10 j hj
