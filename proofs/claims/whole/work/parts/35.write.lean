/-! write -/
def byt (v : Int64) (k : Nat) : Nat := (v.toBitVec.toNat >>> (8 * k)) % 256
theorem byt_lt (v : Int64) (k : Nat) : byt v k < 256 := Nat.mod_lt _ (by decide)
theorem byt_bit (v : Int64) (k i : Nat) : (byt v k).testBit i = (decide (i < 8) && v.toBitVec.getLsbD (8 * k + i)) := by
  unfold byt
  rw [show (256 : Nat) = 2 ^ 8 from rfl, Nat.testBit_mod_two_pow, Nat.testBit_shiftRight]
  rfl
theorem sh_c : ∀ k, k < 8 → (((8 * nI k : Int32).toInt64.toUInt64 &&& Int64.toUInt64 63).toBitVec % 64).toNat = 8 * k := by decide +kernel
theorem sh_m : ∀ k, k < 8 → (((8 * nI k : Int32).toInt64 &&& 63).toBitVec.smod 64).toNat = 8 * k := by decide +kernel
theorem g255 : ∀ i, i < 32 → (255#64).getLsbD i = decide (i < 8) := by decide
theorem h255 : ∀ i, i < 32 → (255#32).getLsbD i = decide (i < 8) := by decide
theorem byC (v : Int64) {k : Nat} (hk : k < 8) : ((v.toUInt64 >>> ((8 * nI k : Int32).toInt64.toUInt64 &&& Int64.toUInt64 63)).toInt64 &&& 255).toInt32 = nI (byt v k) := by
  apply Int32.toBitVec_inj.mp
  apply BitVec.eq_of_getLsbD_eq
  intro i hi
  show (BitVec.signExtend 32 ((v.toBitVec >>> (((8 * nI k : Int32).toInt64.toUInt64 &&& Int64.toUInt64 63).toBitVec % 64)) &&& 255#64)).getLsbD i = (BitVec.ofNat 32 (byt v k)).getLsbD i
  rw [BitVec.getLsbD_signExtend, decide_eq_true hi, if_pos (by omega), BitVec.getLsbD_and, g255 i hi, BitVec.getLsbD_ofNat, decide_eq_true hi, byt_bit]
  have e : (v.toBitVec >>> (((8 * nI k : Int32).toInt64.toUInt64 &&& Int64.toUInt64 63).toBitVec % 64)) = v.toBitVec >>> (8 * k) := by
    show v.toBitVec >>> (((8 * nI k : Int32).toInt64.toUInt64 &&& Int64.toUInt64 63).toBitVec % 64).toNat = _
    rw [sh_c k hk]
  rw [e, BitVec.getLsbD_ushiftRight]
  simp [Bool.and_comm]
theorem byM (v : Int64) {k : Nat} (hk : k < 8) : (v >>> ((8 * nI k : Int32).toInt64 &&& 63)).toInt32 &&& 255 = nI (byt v k) := by
  apply Int32.toBitVec_inj.mp
  apply BitVec.eq_of_getLsbD_eq
  intro i hi
  show (BitVec.signExtend 32 (v.toBitVec.sshiftRight (((8 * nI k : Int32).toInt64 &&& 63).toBitVec.smod 64).toNat) &&& 255#32).getLsbD i = (BitVec.ofNat 32 (byt v k)).getLsbD i
  rw [BitVec.getLsbD_and, h255 i hi, BitVec.getLsbD_signExtend, decide_eq_true hi, if_pos (by omega), sh_m k hk, BitVec.getLsbD_ofNat, decide_eq_true hi, byt_bit, BitVec.getLsbD_sshiftRight]
  by_cases c : i < 8
  · rw [if_pos (by omega)]
    simp [c]
    intro h
    omega
  · simp [c]
theorem cC.text {h h' : PvH} {g : PvG} {rt tt : Nat} {q : Nat → Nat} {x : SX} (G : gC g rt tt q) (C : cC h rt q x) (O : okX x) {n : Nat} {X : Nat → Nat} (hf : ∀ o, o ≠ 0 → o ≠ 1 → h' o = h o) (hn : h' 0 1 = nI n) (hX : ∀ i, i < n → h' 1 i = nI (X i)) : cC h' rt q (xT x, xS x, xI x, xA x, xLo x, xHi x, n, X) := by
  have G4 := G.rt
  obtain ⟨T, S, I, m, A, lo, hi, N, Y, z, zl⟩ := C
  refine ⟨T.fr (fun a h1 h2 => hf a (by omega) (by omega)), S.fr (hf _ (by omega) (by omega)) (hf _ (by omega) (by omega)) (hf _ (by omega) (by omega)) (hf _ (by omega) (by omega)), ?_, ?_, ?_, lo.fr (by rw [hf _ (by omega) (by omega)]) (hf _ (by omega) (by omega)) (hf _ (by omega) (by omega)) (hf _ (by omega) (by omega)) (hf _ (by omega) (by omega)) (hf _ (by omega) (by omega)), hi.fr (by rw [hf _ (by omega) (by omega)]) (hf _ (by omega) (by omega)) (hf _ (by omega) (by omega)) (hf _ (by omega) (by omega)) (hf _ (by omega) (by omega)) (hf _ (by omega) (by omega)), hn, hX, ?_, ?_⟩
  · rw [hf _ (by omega) (by omega)]; exact I
  · rw [hf _ (by omega) (by omega)]; exact m
  · intro i s hs
    have hi10 : i < 10 := Nat.lt_of_lt_of_le (List.getElem?_eq_some_iff.mp hs).1 O.2.2.2.1
    have q4 := G.q4 hi10
    exact (A i s hs).fr (hf _ (by omega) (by omega)) (hf _ (by omega) (by omega)) (hf _ (by omega) (by omega)) (hf _ (by omega) (by omega))
  · rw [hf _ (by omega) (by omega)]; exact z
  · intro e f he hf'
    rw [hf _ (by omega) (by omega)]; exact zl e f he hf'
theorem cD.text {h h' : PvH} {x : SX} (M : cD h x) {n' : Nat} {X : Nat → Nat} (hf : ∀ o, o ≠ 102 → o ≠ 103 → h' o = h o) (hk : ∀ k, k ≠ 2 → h' 102 k = h 102 k) (hn : h' 102 2 = nI n') (hX : ∀ i, i < n' → h' 103 i = nI (X i)) : cD h' (xT x, xS x, xI x, xA x, xLo x, xHi x, n', X) := by
  obtain ⟨⟨a1, a2, a3, a4, a5, a6, a7, a8, a9, a10, a11, a12, a13, a14⟩, n, A, ⟨l1, l2⟩, ⟨i1, i2⟩, N, Y⟩ := M
  refine ⟨⟨?_, ?_, ?_, ?_, ?_, ?_, ?_, ?_, ?_, ?_, ?_, ?_, ?_, ?_⟩, ?_, ?_, ⟨?_, ?_⟩, ⟨?_, ?_⟩, hn, hX⟩
  · rw [hk _ (by omega)]; exact a1
  · rw [hf _ (by omega) (by omega)]; exact a2
  · rw [hk _ (by omega)]; exact a3
  · rw [hf _ (by omega) (by omega)]; exact a4
  · rw [hf _ (by omega) (by omega)]; exact a5
  · rw [hf _ (by omega) (by omega)]; exact a6
  · rw [hf _ (by omega) (by omega)]; exact a7
  · rw [hf _ (by omega) (by omega)]; exact a8
  · rw [hf _ (by omega) (by omega)]; exact a9
  · rw [hf _ (by omega) (by omega)]; exact a10
  · rw [hf _ (by omega) (by omega)]; exact a11
  · rw [hk _ (by omega)]; exact a12
  · rw [hk _ (by omega)]; exact a13
  · rw [hk _ (by omega)]; exact a14
  · rw [hk _ (by omega)]; exact n
  · intro i s hs
    have := A i s hs
    unfold cP at this ⊢
    rw [hf _ (by omega) (by omega)]; exact this
  · rw [hf _ (by omega) (by omega)]; exact l1
  · intro s ix hs
    have := l2 s ix hs
    unfold cP at this ⊢
    rw [hf _ (by omega) (by omega)]; exact this
  · rw [hf _ (by omega) (by omega)]; exact i1
  · intro s ix hs
    have := i2 s ix hs
    unfold cP at this ⊢
    rw [hf _ (by omega) (by omega)]; exact this
def in18 (a : Int32) : Bool := decide (1 ≤ a.toInt ∧ a.toInt ≤ 8)
theorem in18_t {a : Int32} (h : in18 a = true) : ∃ n, 1 ≤ n ∧ n ≤ 8 ∧ a = nI n := by
  have := of_decide_eq_true h
  have e : inr a 9 = true := decide_eq_true (by omega)
  obtain ⟨j, hj, rfl⟩ := inr_t e
  rw [nI_toInt (by omega)] at this
  exact ⟨j, by omega, by omega, rfl⟩
theorem in18l {a : Int32} : decide ((1 : Int64) ≤ a.toInt64 ∧ a.toInt64 ≤ 8) = in18 a := by
  unfold in18
  apply decide_eq_decide.mpr
  rw [Int64.le_iff_toInt_le, Int64.le_iff_toInt_le, l64]
  exact Iff.rfl
def wrT (x : SX) (n : Nat) (v : Int64) (i : Nat) : Nat := if xN x ≤ i then byt v (xN x + n - 1 - i) else xX x i
def wrA (x : SX) (a : Int32) : Int32 := if in18 a then (if xN x + a.toNatClampNeg ≤ 76 then nI (xN x + a.toNatClampNeg) else -4) else -2
def wrX (x : SX) (a : Int32) (v : Int64) : SX := if in18 a then (if xN x + a.toNatClampNeg ≤ 76 then (xT x, xS x, xI x, xA x, xLo x, xHi x, xN x + a.toNatClampNeg, wrT x a.toNatClampNeg v) else x) else x
theorem m1z : nI 0 - 1 = -1 := by decide
theorem pm1 (j : Nat) : nI j + (-1) = nI j - 1 := (Int32.sub_eq_add_neg ..).symm
theorem oC59 {x : SX} (O : okX x) (a : Int32) (v : Int64) : OpC 1 59 [.int a, .long v] x (.int (wrA x a)) (wrX x a v) := by
  intro d P g h ⟨rt, tt, q, G, C⟩ hP
  have hN := O.2.2.2.2.2.2.2.1
  unfold wrA wrX at hP
  cases hI : in18 a with
  | false =>
    have h1 : a < 1 ∨ ¬ a ≤ 8 := by
      have := of_decide_eq_false hI
      rw [Int32.lt_iff_toInt_lt, Int32.le_iff_toInt_le]
      show a.toInt < 1 ∨ ¬ a.toInt ≤ 8
      omega
    rw [hI] at hP
    have hP := hP g h ⟨rt, tt, q, G, C⟩ FG.rf FC.rf
    simp only [e59, z59_0, z59_1, z59_2, z59_5, z59_6, z59_8, z59_11, z59_13, pv_catN, pv_cat1, pv_cat2, pv_cat3, pv_catL, Option.toList, List.nil_append, List.cons_append, List.append_nil, pv_rfS, pn_i, pn_r, pn_n, pn_o, true_and, and_true, Nat.le_refl, and_self, true_implies, false_implies, not_true_eq_false, not_false_eq_true, pv_b0, pv_b01, pv_bn0, pv_b1, Bool.false_eq_true, Bool.true_eq_false, Bool.not_false, Bool.not_true, pv_bT, pv_bF, eq_self]
    refine ⟨fun _ => hP, fun c1 => ⟨fun c2 => ?_, fun c2 => hP⟩⟩
    rcases h1 with z | z
    · exact absurd z c1
    · exact absurd c2 z
  | true =>
    obtain ⟨n, hn1, hn8, rfl⟩ := in18_t hI
    rw [hI, nI_clamp (by omega)] at hP
    simp only [if_true] at hP
    have e1 : (nI n < 1) = False := eq_false (by rw [show (1 : Int32) = nI 1 from rfl, nI_lt' (by omega) (by decide)]; omega)
    have e8 : (nI n ≤ 8) = True := eq_true (by rw [show (8 : Int32) = nI 8 from rfl, nI_le' (by omega) (by decide)]; omega)
    have e76 : (nI (xN x + n) ≤ 76) = (xN x + n ≤ 76) := nI_le' (b := 76) (by omega) (by decide)
    simp only [e59, z59_0, z59_1, z59_2, z59_5, z59_6, z59_8, z59_14, z59_15, z59_18, z59_19, z59_20, z59_22, z59_25, z59_27, z59_28, z59_29, z59_30, z59_31, pv_catN, pv_cat1, pv_cat2, pv_cat3, pv_catL, Option.toList, List.nil_append, List.cons_append, List.append_nil, pv_rfS, pn_i, pn_r, pn_n, pn_o, true_and, and_true, Nat.le_refl, and_self, true_implies, false_implies, not_true_eq_false, not_false_eq_true, pv_b0, pv_b01, pv_bn0, pv_b1, Bool.false_eq_true, Bool.true_eq_false, Bool.not_false, Bool.not_true, pv_bT, pv_bF, eq_self, e1, e8, G.o0, C.N, nI_add, e76]
    refine ⟨fun c => ?_, fun c => ?_⟩
    · rw [if_pos c, if_pos c] at hP
      have loop : ∀ k (h1 : PvH), k ≤ n → (∀ o, o ≠ 0 → o ≠ 1 → h1 o = h o) → h1 0 1 = nI (xN x + n - k) → (∀ i, i < xN x + n - k → h1 1 i = nI (wrT x n v i)) → pv_E d 59 P 33 [some (.ref 0), some (.int (nI n)), some (.long v), none, some (.int (nI k - 1))] [] 0 0 g h1 := by
        intro k
        induction k with
        | zero =>
          intro h1 _ f1 f2 f3
          rw [z59_33]
          simp only [z59_0, z59_1, z59_2, z59_5, z59_6, z59_8, z59_11, z59_13, z59_14, z59_15, z59_18, z59_19, z59_20, z59_22, z59_25, z59_27, z59_28, z59_29, z59_30, z59_31, z59_35, z59_38, z59_39, z59_42, z59_43, z59_46, z59_47, z59_49, z59_51, z59_52, z59_53, z59_56, z59_57, z59_58, z59_59, z59_60, y59_60, z59_61, z59_64, z59_65, z59_66, z59_69, z59_72, z59_75, z59_76, z59_79, pv_catN, pv_cat1, pv_cat2, pv_cat3, pv_catL, Option.toList, List.nil_append, List.cons_append, List.append_nil, pv_rfS, pn_i, pn_r, pn_n, pn_o, true_and, and_true, Nat.le_refl, and_self, true_implies, false_implies, not_true_eq_false, not_false_eq_true, pv_b0, pv_b01, pv_bn0, pv_b1, Bool.false_eq_true, Bool.true_eq_false, Bool.not_false, Bool.not_true, pv_bT, pv_bF, eq_self, m1z, show ((-1 : Int32) < 0) = True from eq_true (by decide), G.o0, f2]
          exact hP g h1 ⟨rt, tt, q, G, cC.text G C O f1 f2 f3⟩ FG.rf (fun o ho => f1 o (by omega) (by omega))
        | succ k ih =>
          intro h1 hk f1 f2 f3
          have ek : nI (k + 1) - 1 = nI k := nI_pred k
          rw [z59_33]
          simp only [z59_0, z59_1, z59_2, z59_5, z59_6, z59_8, z59_11, z59_13, z59_14, z59_15, z59_18, z59_19, z59_20, z59_22, z59_25, z59_27, z59_28, z59_29, z59_30, z59_31, z59_35, z59_38, z59_39, z59_42, z59_43, z59_46, z59_47, z59_49, z59_51, z59_52, z59_53, z59_56, z59_57, z59_58, z59_59, z59_60, y59_60, z59_61, z59_64, z59_65, z59_66, z59_69, z59_72, z59_75, z59_76, z59_79, pv_catN, pv_cat1, pv_cat2, pv_cat3, pv_catL, Option.toList, List.nil_append, List.cons_append, List.append_nil, pv_rfS, pn_i, pn_r, pn_n, pn_o, true_and, and_true, Nat.le_refl, and_self, true_implies, false_implies, not_true_eq_false, not_false_eq_true, pv_b0, pv_b01, pv_bn0, pv_b1, Bool.false_eq_true, Bool.true_eq_false, Bool.not_false, Bool.not_true, pv_bT, pv_bF, eq_self, ek, lt0, nI_toInt (show k < 2 ^ 31 by omega), show ((k : Int) < 0) = False from eq_false (by omega), G.o0, G.r0_0, G.t1, f2, byC v (show k < 8 by omega), vp_nI (show xN x + n - (k + 1) < 76 by omega) (show 76 < 2 ^ 31 by decide), nI_clamp (show xN x + n - (k + 1) < 2 ^ 31 by omega), st_o (show (0 : Nat) ≠ 1 by omega), nI_1, pm1]
          refine ih _ (by omega) (fun o h0 h1 => by rw [st_o h0, st_o h1, f1 o h0 h1]) (by rw [st_at, show xN x + n - (k + 1) + 1 = xN x + n - k by omega]) (fun i hi => ?_)
          rw [st_o (by omega)]
          by_cases z : i = xN x + n - (k + 1)
          · subst z
            rw [st_at]
            unfold wrT
            rw [if_pos (by omega), show xN x + n - 1 - (xN x + n - (k + 1)) = k by omega]
          · rw [st_k z]
            exact f3 i (by omega)
      refine loop n h (Nat.le_refl _) (fun _ _ _ => rfl) (by rw [C.N, Nat.add_sub_cancel]) (fun i hi => ?_)
      unfold wrT
      rw [if_neg (by omega)]
      exact C.Y i (by omega)
    · rw [if_neg c, if_neg c] at hP
      exact hP g h ⟨rt, tt, q, G, C⟩ FG.rf FC.rf
theorem oM104 {x : SX} (O : okX x) (a : Int32) (v : Int64) : OpM 2 104 [.int a, .long v] x (.int (wrA x a)) (wrX x a v) := by
  intro d P g h ⟨G, M0⟩ hP
  have M := M0.t0
  have hN := O.2.2.2.2.2.2.2.1
  unfold wrA wrX at hP
  cases hI : in18 a with
  | false =>
    rw [hI] at hP
    have hP := hP _ ⟨G, M⟩ (FM.rf.st (by omega))
    simp only [e104, z104_0, z104_1, z104_2, z104_5, z104_6, z104_7, z104_8, z104_11, z104_14, z104_17, z104_19, z104_20, z104_21, z104_24, z104_25, z104_26, z104_28, z104_31, z104_33, z104_34, z104_35, z104_36, z104_37, z104_41, z104_44, z104_45, z104_48, z104_49, z104_52, z104_53, z104_55, z104_57, z104_58, z104_59, z104_60, z104_63, z104_64, z104_65, z104_66, y104_66, z104_67, z104_70, z104_71, z104_72, z104_75, z104_78, z104_81, z104_82, z104_85, pv_catN, pv_cat1, pv_cat2, pv_cat3, pv_catL, Option.toList, List.nil_append, List.cons_append, List.append_nil, pv_rfS, pn_i, pn_r, pn_n, pn_o, true_and, and_true, Nat.le_refl, and_self, true_implies, false_implies, not_true_eq_false, not_false_eq_true, pv_b0, pv_b01, pv_bn0, pv_b1, Bool.false_eq_true, Bool.true_eq_false, Bool.not_false, Bool.not_true, pv_bT, pv_bF, eq_self, G.o, m100, in18l, hI]
    exact hP
  | true =>
    obtain ⟨n, hn1, hn8, rfl⟩ := in18_t hI
    rw [hI, nI_clamp (by omega)] at hP
    simp only [if_true] at hP
    generalize hh : pv_st h 102 0 0 = h0 at M
    have F0 : FM h h0 := hh ▸ FM.rf.st (by omega)
    have e76 : (nI (xN x + n) ≤ 76) = (xN x + n ≤ 76) := nI_le' (b := 76) (by omega) (by decide)
    simp only [e104, z104_0, z104_1, z104_2, z104_5, z104_6, z104_7, z104_8, z104_11, z104_14, z104_17, z104_19, z104_20, z104_21, z104_24, z104_25, z104_26, z104_28, z104_31, z104_33, z104_34, z104_35, z104_36, z104_37, z104_41, z104_44, z104_45, z104_48, z104_49, z104_52, z104_53, z104_55, z104_57, z104_58, z104_59, z104_60, z104_63, z104_64, z104_65, z104_66, y104_66, z104_67, z104_70, z104_71, z104_72, z104_75, z104_78, z104_81, z104_82, z104_85, pv_catN, pv_cat1, pv_cat2, pv_cat3, pv_catL, Option.toList, List.nil_append, List.cons_append, List.append_nil, pv_rfS, pn_i, pn_r, pn_n, pn_o, true_and, and_true, Nat.le_refl, and_self, true_implies, false_implies, not_true_eq_false, not_false_eq_true, pv_b0, pv_b01, pv_bn0, pv_b1, Bool.false_eq_true, Bool.true_eq_false, Bool.not_false, Bool.not_true, pv_bT, pv_bF, eq_self, G.o, m100, in18l, hI, hh, M.N, nI_add, e76]
    refine ⟨fun c => ?_, fun c => ?_⟩
    · rw [if_pos c, if_pos c] at hP
      have loop : ∀ k (h1 : PvH), k ≤ n → (∀ o, o ≠ 102 → o ≠ 103 → h1 o = h0 o) → (∀ j, j ≠ 2 → h1 102 j = h0 102 j) → h1 102 2 = nI (xN x + n - k) → (∀ i, i < xN x + n - k → h1 103 i = nI (wrT x n v i)) → pv_E (d + 1) 104 P 39 [some (.ref 102), some (.int (nI n)), some (.long v), none, some (.int (nI k - 1))] [] 0 0 g h1 := by
        intro k
        induction k with
        | zero =>
          intro h1 _ f1 f0 f2 f3
          rw [z104_39]
          simp only [z104_0, z104_1, z104_2, z104_5, z104_6, z104_7, z104_8, z104_11, z104_14, z104_17, z104_19, z104_20, z104_21, z104_24, z104_25, z104_26, z104_28, z104_31, z104_33, z104_34, z104_35, z104_36, z104_37, z104_41, z104_44, z104_45, z104_48, z104_49, z104_52, z104_53, z104_55, z104_57, z104_58, z104_59, z104_60, z104_63, z104_64, z104_65, z104_66, y104_66, z104_67, z104_70, z104_71, z104_72, z104_75, z104_78, z104_81, z104_82, z104_85, pv_catN, pv_cat1, pv_cat2, pv_cat3, pv_catL, Option.toList, List.nil_append, List.cons_append, List.append_nil, pv_rfS, pn_i, pn_r, pn_n, pn_o, true_and, and_true, Nat.le_refl, and_self, true_implies, false_implies, not_true_eq_false, not_false_eq_true, pv_b0, pv_b01, pv_bn0, pv_b1, Bool.false_eq_true, Bool.true_eq_false, Bool.not_false, Bool.not_true, pv_bT, pv_bF, eq_self, m1z, show ((-1 : Int32) < 0) = True from eq_true (by decide), G.o, f2]
          exact hP h1 ⟨G, cD.text M f1 f0 f2 f3⟩ (fun o ho => by rw [f1 o (by omega) (by omega)]; exact F0 o ho)
        | succ k ih =>
          intro h1 hk f1 f0 f2 f3
          have ek : nI (k + 1) - 1 = nI k := nI_pred k
          rw [z104_39]
          simp only [z104_0, z104_1, z104_2, z104_5, z104_6, z104_7, z104_8, z104_11, z104_14, z104_17, z104_19, z104_20, z104_21, z104_24, z104_25, z104_26, z104_28, z104_31, z104_33, z104_34, z104_35, z104_36, z104_37, z104_41, z104_44, z104_45, z104_48, z104_49, z104_52, z104_53, z104_55, z104_57, z104_58, z104_59, z104_60, z104_63, z104_64, z104_65, z104_66, y104_66, z104_67, z104_70, z104_71, z104_72, z104_75, z104_78, z104_81, z104_82, z104_85, pv_catN, pv_cat1, pv_cat2, pv_cat3, pv_catL, Option.toList, List.nil_append, List.cons_append, List.append_nil, pv_rfS, pn_i, pn_r, pn_n, pn_o, true_and, and_true, Nat.le_refl, and_self, true_implies, false_implies, not_true_eq_false, not_false_eq_true, pv_b0, pv_b01, pv_bn0, pv_b1, Bool.false_eq_true, Bool.true_eq_false, Bool.not_false, Bool.not_true, pv_bT, pv_bF, eq_self, ek, lt0, nI_toInt (show k < 2 ^ 31 by omega), show ((k : Int) < 0) = False from eq_false (by omega), G.o, G.r1, G.t103, f2, byM v (show k < 8 by omega), vp_nI (show xN x + n - (k + 1) < 76 by omega) (show 76 < 2 ^ 31 by decide), nI_clamp (show xN x + n - (k + 1) < 2 ^ 31 by omega), st_o (show (102 : Nat) ≠ 103 by omega), nI_1, pm1]
          refine ih _ (by omega) (fun o h0 h1 => by rw [st_o h0, st_o h1, f1 o h0 h1]) (fun j hj => by rw [st_k hj, st_o (by omega), f0 j hj]) (by rw [st_at, show xN x + n - (k + 1) + 1 = xN x + n - k by omega]) (fun i hi => ?_)
          rw [st_o (by omega)]
          by_cases z : i = xN x + n - (k + 1)
          · subst z
            rw [st_at]
            unfold wrT
            rw [if_pos (by omega), show xN x + n - 1 - (xN x + n - (k + 1)) = k by omega]
          · rw [st_k z]
            exact f3 i (by omega)
      refine loop n h0 (Nat.le_refl _) (fun _ _ _ => rfl) (fun _ _ => rfl) (by rw [M.N, Nat.add_sub_cancel]) (fun i hi => ?_)
      unfold wrT
      rw [if_neg (by omega)]
      exact M.Y i (by omega)
    · rw [if_neg c, if_neg c] at hP
      exact hP h0 ⟨G, M⟩ F0
