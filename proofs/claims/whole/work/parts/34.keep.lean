/-! kept and gone on from -/
theorem cC.slots {h h' : PvH} {g : PvG} {rt tt : Nat} {q : Nat → Nat} {x : SX} (G : gC g rt tt q) (C : cC h rt q x) (O : okX x) {k1 k2 : Option (SS × (Nat → Nat))} (hf : ∀ o, (o < 67 ∨ 78 < o) → h' o = h o) (l' : cK h' 67 68 72 (tR (xT x)) k1) (r' : cK h' 73 74 78 (tR (xT x)) k2) : cC h' rt q (xT x, xS x, xI x, xA x, k1, k2, xN x, xX x) := by
  have G4 := G.rt
  obtain ⟨T, S, X, n, A, lo, hi, N, Y, z, zl⟩ := C
  refine ⟨T.fr (fun a h1 h2 => hf a (by omega)), S.fr (hf _ (by omega)) (hf _ (by omega)) (hf _ (by omega)) (hf _ (by omega)), ?_, ?_, ?_, l', r', ?_, ?_, ?_, ?_⟩
  · rw [hf _ (by omega)]; exact X
  · rw [hf _ (by omega)]; exact n
  · intro i s hs
    have hi10 : i < 10 := Nat.lt_of_lt_of_le (List.getElem?_eq_some_iff.mp hs).1 O.2.2.2.1
    have q4 := G.q4 hi10
    exact (A i s hs).fr (hf _ (by omega)) (hf _ (by omega)) (hf _ (by omega)) (hf _ (by omega))
  · rw [hf _ (by omega)]; exact N
  · rw [hf _ (by omega)]; exact Y
  · rw [hf _ (by omega)]; exact z
  · intro e f he hf'
    rw [hf _ (by omega)]; exact zl e f he hf'
theorem cC.back {h h' : PvH} {g : PvG} {rt tt : Nat} {q : Nat → Nat} {x : SX} (G : gC g rt tt q) (C : cC h rt q x) {s : SS} {ix : Nat → Nat} (hf : ∀ o, (o < 20 ∨ (25 < o ∧ o < 27) ∨ 66 < o) → h' o = h o) (S' : cS h' 20 (tR (xT x)) s) (X' : ∀ r, r < tR (xT x) → h' 24 r = nI (ix r)) (n' : h' 25 1 = 0) : cC h' rt q (xT x, s, ix, [], xLo x, xHi x, xN x, xX x) := by
  have G4 := G.rt
  obtain ⟨T, S, X, n, A, lo, hi, N, Y, z, zl⟩ := C
  refine ⟨T.fr (fun a h1 h2 => hf a (by omega)), S', X', n', ?_, lo.fr ?_ (hf _ (by omega)) (hf _ (by omega)) (hf _ (by omega)) (hf _ (by omega)) (hf _ (by omega)), hi.fr ?_ (hf _ (by omega)) (hf _ (by omega)) (hf _ (by omega)) (hf _ (by omega)) (hf _ (by omega)), ?_, ?_, ?_, ?_⟩
  · intro i s' hs
    exact absurd hs (by simp [xA])
  · rw [hf _ (by omega)]
  · rw [hf _ (by omega)]
  · rw [hf _ (by omega)]; exact N
  · rw [hf _ (by omega)]; exact Y
  · rw [hf _ (by omega)]; exact z
  · intro e f he hf'
    rw [hf _ (by omega)]; exact zl e f he hf'
def keepA (x : SX) (a : Int32) : Int32 := if inr a 2 then nI (sH (xS x)) else -1
def keepX (x : SX) (a : Int32) : SX := if inr a 2 then (if a.toNatClampNeg = 0 then (xT x, xS x, xI x, xA x, some (xS x, xI x), xHi x, xN x, xX x) else (xT x, xS x, xI x, xA x, xLo x, some (xS x, xI x), xN x, xX x)) else x
def slotOf (x : SX) (a : Int32) : Option (SS × (Nat → Nat)) := if a.toNatClampNeg = 0 then xLo x else xHi x
def againA (x : SX) (a : Int32) : Int32 := if inr a 2 then (match slotOf x a with | none => -3 | some k => nI (sH k.1)) else -1
def againX (x : SX) (a : Int32) : SX := if inr a 2 then (match slotOf x a with | none => x | some k => (xT x, k.1, k.2, [], xLo x, xHi x, xN x, xX x)) else x
theorem in1 {a : Int32} : decide ((0 : Int64) ≤ a.toInt64 ∧ a.toInt64 ≤ 1) = inr a 2 := by
  unfold inr
  apply decide_eq_decide.mpr
  rw [Int64.le_iff_toInt_le, Int64.le_iff_toInt_le, l64]
  show (0 ≤ a.toInt ∧ a.toInt ≤ 1) ↔ _
  omega
theorem c2_f {a : Int32} (hI : inr a 2 = false) : a < 0 ∨ (1 : Int32) < a := by
  have := of_decide_eq_false hI
  rw [lt0, show (1 : Int32) = nI 1 from rfl, lt_nI (by decide)]
  omega
theorem oC83 {x : SX} (O : okX x) (a : Int32) : OpC 3 83 [.int a] x (.int (keepA x a)) (keepX x a) := by
  intro d P g h ⟨rt, tt, q, G, C⟩ hP
  have hR := O.R
  unfold keepA keepX at hP
  cases hI : inr a 2 with
  | false =>
    have h1 := c2_f hI
    rw [hI] at hP
    have hP := hP g h ⟨rt, tt, q, G, C⟩ FG.rf FC.rf
    simp only [e83, z83_0, z83_1, z83_4, z83_5, z83_6, z83_9, z83_10, pv_catN, pv_cat1, pv_cat2, pv_cat3, pv_catL, Option.toList, List.nil_append, List.cons_append, List.append_nil, pv_rfS, pn_i, pn_r, pn_n, pn_o, true_and, and_true, Nat.le_refl, and_self, true_implies, false_implies, not_true_eq_false, not_false_eq_true, pv_b0, pv_b01, pv_bn0, pv_b1, Bool.false_eq_true, Bool.true_eq_false, Bool.not_false, Bool.not_true, pv_bT, pv_bF, eq_self]
    refine ⟨fun _ => hP, fun c1 => ⟨fun c2 => ?_, fun c2 => hP⟩⟩
    rcases h1 with z | z
    · exact absurd z c1
    · exact absurd c2 (Int32.not_le.mpr z)
  | true =>
    have body : ∀ k, (k = 67 ∨ k = 73) → (pv_tg g k).1 = 5 → pv_rf g k 1 = some (k + 1) → pv_rf g k 2 = some (k + 5) → gS g (k + 1) → pv_tg g (k + 5) = (100, 8) → (∀ h' : PvH, (∀ o, (o < k ∨ k + 5 < o) → h' o = h o) → cK h' k (k + 1) (k + 5) (tR (xT x)) (some (xS x, xI x)) → P (some (.int (nI (sH (xS x))))) g h') → ∀ v, pv_E (d + 2) 83 P 26 [some (.ref 0), some (.int v), none] [.ref k] 0 0 g h := by
      intro k hk t5 r1 r2 Sk t8 hF v
      simp only [z83_26, z83_27, z83_28, z83_29, z83_32, z83_33, z83_36, z83_37, pv_catN, pv_cat1, pv_cat2, pv_cat3, pv_catL, Option.toList, List.nil_append, List.cons_append, List.append_nil, pv_rfS, pn_i, pn_r, pn_n, pn_o, true_and, and_true, Nat.le_refl, and_self, true_implies, false_implies, not_true_eq_false, not_false_eq_true, pv_b0, pv_b01, pv_bn0, pv_b1, Bool.false_eq_true, Bool.true_eq_false, Bool.not_false, Bool.not_true, pv_bT, pv_bF, eq_self, t5, r1, G.o0, G.r0_4]
      rw [z83_40 (by simp [pv_cat, Value.category]) (by decide)]
      refine ⟨Or.inr trivial, Sk.1, m40 Sk G.S20 (C.S.fr (st_o (by omega)) (st_o (by omega)) (st_o (by omega)) (st_o (by omega))) hR (by omega) fun h2 f2 S2 => ?_⟩
      have e20 : pv_cpy h2 24 (k + 5) 0 0 8 20 4 = nI (sH (xS x)) := by rw [cpy_ne (by omega), f2 20 (by omega), st_o (by omega)]; exact C.S.2.2.2.2.1
      simp only [z83_43, z83_44, z83_47, z83_48, z83_49, z83_52, z83_53, z83_55, z83_58, z83_59, z83_62, z83_65, pv_catN, pv_cat1, pv_cat2, pv_cat3, pv_catL, Option.toList, List.nil_append, List.cons_append, List.append_nil, pv_rfS, pn_i, pn_r, pn_n, pn_o, true_and, and_true, Nat.le_refl, and_self, true_implies, false_implies, not_true_eq_false, not_false_eq_true, pv_b0, pv_b01, pv_bn0, pv_b1, Bool.false_eq_true, Bool.true_eq_false, Bool.not_false, Bool.not_true, pv_bT, pv_bF, eq_self, t5, r2, G.o0, G.r0_5, G.r0_4, G.S20.1, G.t24, t8, cl0, cl8, Nat.zero_add, show (¬ (0 : Int32) < 0) = True from eq_true (by decide), show (¬ (8 : Int32) < 0) = True from eq_true (by decide), e20]
      refine hF _ (fun o ho => by rw [cpy_ne (by omega), f2 o (by omega), st_o (by omega)]) ⟨?_, fun s ix hs => ?_⟩
      · rw [cpy_ne (by omega), f2 _ (by omega), st_at]; rfl
      · cases hs
        refine ⟨S2.fr (cpy_ne (by omega)) (cpy_ne (by omega)) (cpy_ne (by omega)) (cpy_ne (by omega)), fun r hr => ?_⟩
        rw [cpy_at (by omega), f2 24 (by omega), st_o (by omega)]
        exact C.X r hr
    obtain ⟨j, hj, rfl⟩ := inr_t hI
    rw [hI, nI_clamp (by omega)] at hP
    have hj0 : (nI j = 0) = (j = 0) := nI_eq' (b := 0) (by omega) (by decide)
    have e1 : (nI j ≤ 1) = True := eq_true (by rw [show (1 : Int32) = nI 1 from rfl, nI_le' (by omega) (by decide)]; omega)
    simp only [e83, z83_0, z83_1, z83_4, z83_5, z83_6, z83_11, z83_12, z83_15, z83_16, z83_19, z83_22, z83_23, pv_catN, pv_cat1, pv_cat2, pv_cat3, pv_catL, Option.toList, List.nil_append, List.cons_append, List.append_nil, pv_rfS, pn_i, pn_r, pn_n, pn_o, true_and, and_true, Nat.le_refl, and_self, true_implies, false_implies, not_true_eq_false, not_false_eq_true, pv_b0, pv_b01, pv_bn0, pv_b1, Bool.false_eq_true, Bool.true_eq_false, Bool.not_false, Bool.not_true, pv_bT, pv_bF, eq_self, lt0, nI_toInt (show j < 2 ^ 31 by omega), show ((j : Int) < 0) = False from eq_false (by omega), e1, hj0, G.o0, G.r0_7, G.r0_8]
    refine ⟨fun c => ?_, fun c => ?_⟩
    rotate_left
    · have c := Classical.not_not.mp c
      simp only [if_true, if_pos c] at hP
      refine body 67 (Or.inl rfl) G.o67 G.r67_1 G.r67_2 G.S68 G.t72 (fun h' hf K => ?_) _
      exact hP g h' ⟨rt, tt, q, G, cC.slots G C O (fun o ho => hf o (by omega)) K (C.hi.fr (by rw [hf _ (by omega)]) (hf _ (by omega)) (hf _ (by omega)) (hf _ (by omega)) (hf _ (by omega)) (hf _ (by omega)))⟩ FG.rf (fun o ho => hf o (by omega))
    · simp only [if_true, if_neg c] at hP
      refine body 73 (Or.inr rfl) G.o73 G.r73_1 G.r73_2 G.S74 G.t78 (fun h' hf K => ?_) _
      exact hP g h' ⟨rt, tt, q, G, cC.slots G C O (fun o ho => hf o (by omega)) (C.lo.fr (by rw [hf _ (by omega)]) (hf _ (by omega)) (hf _ (by omega)) (hf _ (by omega)) (hf _ (by omega)) (hf _ (by omega))) K⟩ FG.rf (fun o ho => hf o (by omega))
theorem oC84 {x : SX} (O : okX x) (a : Int32) : OpC 3 84 [.int a] x (.int (againA x a)) (againX x a) := by
  intro d P g h ⟨rt, tt, q, G, C⟩ hP
  have hR := O.R
  unfold againA againX at hP
  cases hI : inr a 2 with
  | false =>
    have h1 := c2_f hI
    rw [hI] at hP
    have hP := hP g h ⟨rt, tt, q, G, C⟩ FG.rf FC.rf
    simp only [e84, z84_0, z84_1, z84_4, z84_5, z84_6, z84_9, z84_10, pv_catN, pv_cat1, pv_cat2, pv_cat3, pv_catL, Option.toList, List.nil_append, List.cons_append, List.append_nil, pv_rfS, pn_i, pn_r, pn_n, pn_o, true_and, and_true, Nat.le_refl, and_self, true_implies, false_implies, not_true_eq_false, not_false_eq_true, pv_b0, pv_b01, pv_bn0, pv_b1, Bool.false_eq_true, Bool.true_eq_false, Bool.not_false, Bool.not_true, pv_bT, pv_bF, eq_self]
    refine ⟨fun _ => hP, fun c1 => ⟨fun c2 => ?_, fun c2 => hP⟩⟩
    rcases h1 with z | z
    · exact absurd z c1
    · exact absurd c2 (Int32.not_le.mpr z)
  | true =>
    have body : ∀ k, (k = 67 ∨ k = 73) → (pv_tg g k).1 = 5 → pv_rf g k 1 = some (k + 1) → pv_rf g k 2 = some (k + 5) → gS g (k + 1) → pv_tg g (k + 5) = (100, 8) → ∀ kk, cK h k (k + 1) (k + 5) (tR (xT x)) kk → (∀ g' h', RC g' h' (match kk with | none => x | some k => (xT x, k.1, k.2, [], xLo x, xHi x, xN x, xX x)) → FG g g' → FC h h' → P (some (.int (match kk with | none => -3 | some k => nI (sH k.1)))) g' h') → ∀ v, pv_E (d + 2) 84 P 26 [some (.ref 0), some (.int v), none] [.ref k] 0 0 g h := by
      intro k hk t5 r1 r2 Sk t8 kk K hF v
      simp only [z84_26, z84_27, z84_28, z84_31, z84_34, z84_36, z84_37, z84_38, z84_41, z84_42, pv_catN, pv_cat1, pv_cat2, pv_cat3, pv_catL, Option.toList, List.nil_append, List.cons_append, List.append_nil, pv_rfS, pn_i, pn_r, pn_n, pn_o, true_and, and_true, Nat.le_refl, and_self, true_implies, false_implies, not_true_eq_false, not_false_eq_true, pv_b0, pv_b01, pv_bn0, pv_b1, Bool.false_eq_true, Bool.true_eq_false, Bool.not_false, Bool.not_true, pv_bT, pv_bF, eq_self, t5, r1, G.o0, G.r0_4, K.1]
      refine ⟨fun c => ?_, fun c => ?_⟩
      · have c : kk.isSome = true := by
          cases z : kk.isSome with
          | false => exact absurd z c
          | true => rfl
        obtain ⟨⟨s, ix⟩, rfl⟩ := Option.isSome_iff_exists.mp c
        obtain ⟨Ks, Ki⟩ := K.2 s ix rfl
        rw [z84_45 (by simp [pv_cat, Value.category]) (by decide)]
        refine ⟨G.S20.1, m40 G.S20 Sk Ks hR (by omega) fun h2 f2 S2 => ?_⟩
        have e20 : pv_st (pv_cpy h2 (k + 5) 24 0 0 8) 25 1 0 20 4 = nI (sH s) := by rw [st_o (by omega), cpy_ne (by omega)]; exact S2.2.2.2.2.1
        simp only [z84_48, z84_49, z84_52, z84_53, z84_54, z84_57, z84_58, z84_60, z84_63, z84_64, z84_67, z84_68, z84_71, z84_72, z84_75, z84_78, pv_catN, pv_cat1, pv_cat2, pv_cat3, pv_catL, Option.toList, List.nil_append, List.cons_append, List.append_nil, pv_rfS, pn_i, pn_r, pn_n, pn_o, true_and, and_true, Nat.le_refl, and_self, true_implies, false_implies, not_true_eq_false, not_false_eq_true, pv_b0, pv_b01, pv_bn0, pv_b1, Bool.false_eq_true, Bool.true_eq_false, Bool.not_false, Bool.not_true, pv_bT, pv_bF, eq_self, t5, r2, G.o0, G.r0_5, G.r0_4, G.r0_6, G.o25, G.S20.1, G.t24, t8, cl0, cl8, Nat.zero_add, show (¬ (0 : Int32) < 0) = True from eq_true (by decide), show (¬ (8 : Int32) < 0) = True from eq_true (by decide), e20]
        refine hF g _ ⟨rt, tt, q, G, cC.back G C (fun o ho => by rw [st_o (by omega), cpy_ne (by omega), f2 o (by omega)]) ?_ (fun r hr => ?_) st_at⟩ FG.rf (fun o ho => by rw [st_o (by omega), cpy_ne (by omega), f2 o (by omega)])
        · exact S2.fr (by rw [st_o (by omega), cpy_ne (by omega)]) (by rw [st_o (by omega), cpy_ne (by omega)]) (by rw [st_o (by omega), cpy_ne (by omega)]) (by rw [st_o (by omega), cpy_ne (by omega)])
        · rw [st_o (by omega), cpy_at (by omega), f2 (k + 5) (by omega)]
          exact Ki r hr
      · have c : kk = none := by simpa using c
        subst c
        exact hF g h ⟨rt, tt, q, G, C⟩ FG.rf FC.rf
    obtain ⟨j, hj, rfl⟩ := inr_t hI
    rw [hI] at hP
    unfold slotOf at hP
    rw [nI_clamp (by omega)] at hP
    have hj0 : (nI j = 0) = (j = 0) := nI_eq' (b := 0) (by omega) (by decide)
    have e1 : (nI j ≤ 1) = True := eq_true (by rw [show (1 : Int32) = nI 1 from rfl, nI_le' (by omega) (by decide)]; omega)
    simp only [e84, z84_0, z84_1, z84_4, z84_5, z84_6, z84_11, z84_12, z84_15, z84_16, z84_19, z84_22, z84_23, pv_catN, pv_cat1, pv_cat2, pv_cat3, pv_catL, Option.toList, List.nil_append, List.cons_append, List.append_nil, pv_rfS, pn_i, pn_r, pn_n, pn_o, true_and, and_true, Nat.le_refl, and_self, true_implies, false_implies, not_true_eq_false, not_false_eq_true, pv_b0, pv_b01, pv_bn0, pv_b1, Bool.false_eq_true, Bool.true_eq_false, Bool.not_false, Bool.not_true, pv_bT, pv_bF, eq_self, lt0, nI_toInt (show j < 2 ^ 31 by omega), show ((j : Int) < 0) = False from eq_false (by omega), e1, hj0, G.o0, G.r0_7, G.r0_8]
    refine ⟨fun c => ?_, fun c => ?_⟩
    rotate_left
    · have c := Classical.not_not.mp c
      simp only [if_true, if_pos c] at hP
      exact body 67 (Or.inl rfl) G.o67 G.r67_1 G.r67_2 G.S68 G.t72 (xLo x) C.lo hP _
    · simp only [if_true, if_neg c] at hP
      exact body 73 (Or.inr rfl) G.o73 G.r73_1 G.r73_2 G.S74 G.t78 (xHi x) C.hi hP _
theorem cQ.fr {h h' : PvH} {z R : Nat} {k : Option (SS × (Nat → Nat))} (K : cQ h z R k) (hR : R ≤ 8) (h0 : h' 119 z = h 119 z) (h1 : ∀ k, 43 * z ≤ k → k < 43 * z + 43 → h' 118 k = h 118 k) : cQ h' z R k := by
  obtain ⟨a, b⟩ := K
  refine ⟨by rw [h0]; exact a, fun s ix hs => ⟨(b s ix hs).1.fr hR (fun k hk => h1 _ (by omega) (by omega)), fun r hr => ?_⟩⟩
  rw [h1 _ (by omega) (by omega)]
  exact (b s ix hs).2 r hr
theorem cD.slots {h h' : PvH} {x : SX} (M : cD h x) {k1 k2 : Option (SS × (Nat → Nat))} (hf : ∀ o, o ≠ 118 → o ≠ 119 → h' o = h o) (l' : cQ h' 0 (tR (xT x)) k1) (r' : cQ h' 1 (tR (xT x)) k2) : cD h' (xT x, xS x, xI x, xA x, k1, k2, xN x, xX x) := by
  obtain ⟨⟨a1, a2, a3, a4, a5, a6, a7, a8, a9, a10, a11, a12, a13, a14⟩, n, A, lo, hi, N, Y⟩ := M
  refine ⟨⟨?_, ?_, ?_, ?_, ?_, ?_, ?_, ?_, ?_, ?_, ?_, ?_, ?_, ?_⟩, ?_, ?_, l', r', ?_, ?_⟩
  · rw [hf _ (by omega) (by omega)]; exact a1
  · rw [hf _ (by omega) (by omega)]; exact a2
  · rw [hf _ (by omega) (by omega)]; exact a3
  · rw [hf _ (by omega) (by omega)]; exact a4
  · rw [hf _ (by omega) (by omega)]; exact a5
  · rw [hf _ (by omega) (by omega)]; exact a6
  · rw [hf _ (by omega) (by omega)]; exact a7
  · rw [hf _ (by omega) (by omega)]; exact a8
  · rw [hf _ (by omega) (by omega)]; exact a9
  · rw [hf _ (by omega) (by omega)]; exact a10
  · rw [hf _ (by omega) (by omega)]; exact a11
  · rw [hf _ (by omega) (by omega)]; exact a12
  · rw [hf _ (by omega) (by omega)]; exact a13
  · rw [hf _ (by omega) (by omega)]; exact a14
  · rw [hf _ (by omega) (by omega)]; exact n
  · intro i s hs
    have := A i s hs
    unfold cP at this ⊢
    rw [hf _ (by omega) (by omega)]; exact this
  · rw [hf _ (by omega) (by omega)]; exact N
  · rw [hf _ (by omega) (by omega)]; exact Y
theorem cD.back {h h' : PvH} {x : SX} (M : cD h x) {s : SS} {ix : Nat → Nat} (hf : ∀ o, 103 ≤ o → o ≠ 106 → o ≠ 108 → o ≠ 109 → o ≠ 110 → o ≠ 111 → h' o = h o) (hk : ∀ k, k = 2 ∨ k = 4 ∨ k = 6 → h' 102 k = h 102 k) (m5 : ∀ r, r < tR (xT x) → h' 106 r = nI (sV s r)) (m7 : ∀ r, r < tR (xT x) → h' 108 r = nI (sK s r)) (m8 : ∀ r, r < tR (xT x) → h' 109 r = nI (sP s r)) (m9 : ∀ r, r < tR (xT x) → h' 110 r = pv_b ((sD s).testBit r)) (m10 : ∀ r, r < tR (xT x) → h' 111 r = nI (ix r)) (m12 : h' 102 15 = nI (sH s)) (m13 : h' 102 16 = nI (sE s)) (m14 : h' 102 17 = nI (sL s)) (n' : h' 102 25 = 0) : cD h' (xT x, s, ix, [], xLo x, xHi x, xN x, xX x) := by
  have hR : ∀ {a b : Nat} {s' : SS}, (a = 117 ∨ a = 118) → cP h a b (tR (xT x)) s' → cP h' a b (tR (xT x)) s' := fun ha hc => by
    unfold cP at hc ⊢
    rw [hf _ (by omega) (by omega) (by omega) (by omega) (by omega) (by omega)]
    exact hc
  obtain ⟨⟨a1, a2, a3, a4, a5, a6, a7, a8, a9, a10, a11, a12, a13, a14⟩, n, A, ⟨l1, l2⟩, ⟨i1, i2⟩, N, Y⟩ := M
  refine ⟨⟨?_, ?_, ?_, ?_, m5, ?_, m7, m8, m9, m10, ?_, m12, m13, m14⟩, n', ?_, ⟨?_, ?_⟩, ⟨?_, ?_⟩, ?_, ?_⟩
  · rw [hk _ (by omega)]; exact a1
  · rw [hf _ (by omega) (by omega) (by omega) (by omega) (by omega) (by omega)]; exact a2
  · rw [hk _ (by omega)]; exact a3
  · rw [hf _ (by omega) (by omega) (by omega) (by omega) (by omega) (by omega)]; exact a4
  · rw [hf _ (by omega) (by omega) (by omega) (by omega) (by omega) (by omega)]; exact a6
  · rw [hf _ (by omega) (by omega) (by omega) (by omega) (by omega) (by omega)]; exact a11
  · intro i s' hs
    exact absurd hs (by simp [xA])
  · rw [hf _ (by omega) (by omega) (by omega) (by omega) (by omega) (by omega)]; exact l1
  · intro s' ix' hs
    refine ⟨hR (Or.inr rfl) (l2 s' ix' hs).1, ?_⟩
    rw [hf _ (by omega) (by omega) (by omega) (by omega) (by omega) (by omega)]; exact (l2 s' ix' hs).2
  · rw [hf _ (by omega) (by omega) (by omega) (by omega) (by omega) (by omega)]; exact i1
  · intro s' ix' hs
    refine ⟨hR (Or.inr rfl) (i2 s' ix' hs).1, ?_⟩
    rw [hf _ (by omega) (by omega) (by omega) (by omega) (by omega) (by omega)]; exact (i2 s' ix' hs).2
  · rw [hk _ (by omega)]; exact N
  · rw [hf _ (by omega) (by omega) (by omega) (by omega) (by omega) (by omega)]; exact Y
theorem oM163 {x : SX} (O : okX x) (a : Int32) : OpM 2 163 [.int a] x (.int (keepA x a)) (keepX x a) := by
  intro d P g h ⟨G, M0⟩ hP
  have M := M0.t0
  have hR := O.R
  unfold keepA keepX at hP
  cases hI : inr a 2 with
  | false =>
    rw [hI] at hP
    have hP := hP _ ⟨G, M⟩ (FM.rf.st (by omega))
    simp only [e163, z163_0, z163_1, z163_2, z163_5, z163_6, z163_7, z163_8, z163_9, z163_12, z163_15, z163_16, z163_17, z163_18, z163_21, z163_22, z163_23, z163_24, z163_25, z163_26, z163_29, z163_31, z163_32, z163_36, z163_37, z163_39, z163_41, z163_44, z163_45, z163_48, z163_50, z163_51, z163_52, z163_54, z163_55, z163_56, z163_57, z163_58, z163_61, z163_62, z163_63, z163_64, z163_67, z163_70, z163_71, z163_74, pv_catN, pv_cat1, pv_cat2, pv_cat3, pv_catL, Option.toList, List.nil_append, List.cons_append, List.append_nil, pv_rfS, pn_i, pn_r, pn_n, pn_o, true_and, and_true, Nat.le_refl, and_self, true_implies, false_implies, not_true_eq_false, not_false_eq_true, pv_b0, pv_b01, pv_bn0, pv_b1, Bool.false_eq_true, Bool.true_eq_false, Bool.not_false, Bool.not_true, pv_bT, pv_bF, eq_self, G.o, m100, in1, hI]
    exact hP
  | true =>
    obtain ⟨j, hj, rfl⟩ := inr_t hI
    have hcj := nI_clamp (show j < 2 ^ 31 by omega)
    rw [hI, hcj] at hP
    simp only [if_true] at hP
    generalize hh : pv_st h 102 0 0 = h0 at M
    have F0 : FM h h0 := hh ▸ FM.rf.st (by omega)
    have M1 : cM (pv_st h0 119 j 1) (xT x) (xS x) (xI x) := by
      obtain ⟨a1, a2, a3, a4, a5, a6, a7, a8, a9, a10, a11, a12, a13, a14⟩ := M.M
      refine ⟨?_, ?_, ?_, ?_, ?_, ?_, ?_, ?_, ?_, ?_, ?_, ?_, ?_, ?_⟩
      all_goals (rw [st_o (by omega)]; assumption)
    simp only [e163, z163_0, z163_1, z163_2, z163_5, z163_6, z163_7, z163_8, z163_9, z163_12, z163_15, z163_16, z163_17, z163_18, z163_21, z163_22, z163_23, z163_24, z163_25, z163_26, z163_29, z163_31, z163_32, z163_36, z163_37, z163_39, z163_41, z163_44, z163_45, z163_48, z163_50, z163_51, z163_52, z163_54, z163_55, z163_56, z163_57, z163_58, z163_61, z163_62, z163_63, z163_64, z163_67, z163_70, z163_71, z163_74, pv_catN, pv_cat1, pv_cat2, pv_cat3, pv_catL, Option.toList, List.nil_append, List.cons_append, List.append_nil, pv_rfS, pn_i, pn_r, pn_n, pn_o, true_and, and_true, Nat.le_refl, and_self, true_implies, false_implies, not_true_eq_false, not_false_eq_true, pv_b0, pv_b01, pv_bn0, pv_b1, Bool.false_eq_true, Bool.true_eq_false, Bool.not_false, Bool.not_true, pv_bT, pv_bF, eq_self, G.o, m100, in1, hI, hh, G.r27, G.t119, G.r26, vp_nI hj (show 2 < 2 ^ 31 by decide), hcj, L43, show ((1 : Int32) = 0 ∨ True) = True from eq_true (Or.inr trivial)]
    rw [z163_33 (by simp [pv_cat, Value.category]) (by decide)]
    refine ⟨G.o, m128 G M1 hR G.t118 (show 43 * j + 35 ≤ 86 by omega) (by omega) (Or.inr rfl) fun h2 c1 c2 c3 => ?_⟩
    have loop : ∀ n r (h3 : PvH), r + n = 8 → (∀ o, o ≠ 118 → h3 o = h2 o) → (∀ k, (k < 43 * j + 35 ∨ 43 * j + 43 ≤ k) → h3 118 k = h2 118 k) → (∀ e, e < r → h3 118 (43 * j + 35 + e) = h2 111 e) → pv_E (d + 1) 163 P 38 [some (.ref 102), some (.int (nI j)), some (.int (nI r))] [] 0 0 g h3 := by
      intro n
      induction n with
      | zero =>
        intro r h3 hr f1 f2 f3
        have hr : r = 8 := hr
        subst hr
        have e15 : h3 102 15 = nI (sH (xS x)) := by rw [f1 102 (by omega), c1 102 (by omega), st_o (by omega)]; exact M.M.H
        rw [z163_38]
        simp only [z163_0, z163_1, z163_2, z163_5, z163_6, z163_7, z163_8, z163_9, z163_12, z163_15, z163_16, z163_17, z163_18, z163_21, z163_22, z163_23, z163_24, z163_25, z163_26, z163_29, z163_31, z163_32, z163_33, z163_36, z163_37, z163_39, z163_41, z163_44, z163_45, z163_48, z163_50, z163_51, z163_52, z163_54, z163_55, z163_56, z163_57, z163_58, z163_61, z163_62, z163_63, z163_64, z163_67, z163_70, z163_71, z163_74, pv_catN, pv_cat1, pv_cat2, pv_cat3, pv_catL, Option.toList, List.nil_append, List.cons_append, List.append_nil, pv_rfS, pn_i, pn_r, pn_n, pn_o, true_and, and_true, Nat.le_refl, and_self, true_implies, false_implies, not_true_eq_false, not_false_eq_true, pv_b0, pv_b01, pv_bn0, pv_b1, Bool.false_eq_true, Bool.true_eq_false, Bool.not_false, Bool.not_true, pv_bT, pv_bF, eq_self, le88, G.o, e15]
        have hX : ∀ r, r < tR (xT x) → h3 118 (43 * j + 35 + r) = nI (xI x r) := fun r hr => by
          rw [f3 r (by omega), c1 111 (by omega), st_o (by omega)]
          exact M.M.X r hr
        have hQ : cQ h3 j (tR (xT x)) (some (xS x, xI x)) := by
          refine ⟨?_, fun s ix hs => ?_⟩
          · rw [f1 119 (by omega), c1 119 (by omega), st_at]; rfl
          · cases hs
            exact ⟨c3.fr hR (fun k hk => f2 _ (by omega)), hX⟩
        have hO : ∀ z k, z < 2 → z ≠ j → cQ h0 z (tR (xT x)) k → cQ h3 z (tR (xT x)) k := fun z k hz hzj K => by
          refine K.fr hR ?_ (fun k h1 h2 => ?_)
          · rw [f1 119 (by omega), c1 119 (by omega), st_k hzj]
          · rw [f2 k (by omega), c2 k (by omega), st_o (by omega)]
        have fr : ∀ o, o ≠ 118 → o ≠ 119 → h3 o = h0 o := fun o h1 h2 => by rw [f1 o h1, c1 o h1, st_o h2]
        have FF : FM h h3 := fun o ho => by rw [fr o (by omega) (by omega)]; exact F0 o ho
        by_cases cj : j = 0
        · subst cj
          exact hP h3 ⟨G, cD.slots M fr hQ (hO 1 _ (by omega) (by omega) M.hi)⟩ FF
        · obtain rfl : j = 1 := by omega
          exact hP h3 ⟨G, cD.slots M fr (hO 0 _ (by omega) (by omega) M.lo) hQ⟩ FF
      | succ n ih =>
        intro r h3 hr f1 f2 f3
        have hr8 : r < 8 := by omega
        have ei : nI (43 * j) + 35 + nI r = nI (43 * j + 35 + r) := by rw [nL35, nI_add]
        rw [z163_38]
        simp only [z163_0, z163_1, z163_2, z163_5, z163_6, z163_7, z163_8, z163_9, z163_12, z163_15, z163_16, z163_17, z163_18, z163_21, z163_22, z163_23, z163_24, z163_25, z163_26, z163_29, z163_31, z163_32, z163_33, z163_36, z163_37, z163_39, z163_41, z163_44, z163_45, z163_48, z163_50, z163_51, z163_52, z163_54, z163_55, z163_56, z163_57, z163_58, z163_61, z163_62, z163_63, z163_64, z163_67, z163_70, z163_71, z163_74, pv_catN, pv_cat1, pv_cat2, pv_cat3, pv_catL, Option.toList, List.nil_append, List.cons_append, List.append_nil, pv_rfS, pn_i, pn_r, pn_n, pn_o, true_and, and_true, Nat.le_refl, and_self, true_implies, false_implies, not_true_eq_false, not_false_eq_true, pv_b0, pv_b01, pv_bn0, pv_b1, Bool.false_eq_true, Bool.true_eq_false, Bool.not_false, Bool.not_true, pv_bT, pv_bF, eq_self, le8 hr8, G.o, G.r26, G.t118, G.r13, G.t111, L43, ei, vp_nI (show 43 * j + 35 + r < 86 by omega) (by decide), nI_clamp (show 43 * j + 35 + r < 2 ^ 31 by omega), vp_nI hr8 (show 8 < 2 ^ 31 by decide), nI_clamp (show r < 2 ^ 31 by omega), nI_1]
        refine ih (r + 1) _ (by omega) (fun o ho => by rw [st_o ho, f1 o ho]) (fun k hk => by rw [st_k (by omega), f2 k hk]) (fun e he => ?_)
        by_cases z : e = r
        · subst z; rw [st_at, f1 111 (by omega)]
        · rw [st_k (by omega), f3 e (by omega)]
    simp only [z163_36, z163_37, pv_catN, pv_cat1, pv_cat2, pv_cat3, pv_catL, Option.toList, List.nil_append, List.cons_append, List.append_nil, pv_rfS, pn_i, pn_r, pn_n, pn_o, true_and, and_true, Nat.le_refl, and_self, true_implies, false_implies, not_true_eq_false, not_false_eq_true, pv_b0, pv_b01, pv_bn0, pv_b1, Bool.false_eq_true, Bool.true_eq_false, Bool.not_false, Bool.not_true, pv_bT, pv_bF, eq_self]
    exact loop 8 0 h2 rfl (fun _ _ => rfl) (fun _ _ => rfl) (fun e he => absurd he (Nat.not_lt_zero e))
theorem oM164 {x : SX} (O : okX x) (a : Int32) : OpM 2 164 [.int a] x (.int (againA x a)) (againX x a) := by
  intro d P g h ⟨G, M0⟩ hP
  have M := M0.t0
  have hR := O.R
  unfold againA againX at hP
  cases hI : inr a 2 with
  | false =>
    rw [hI] at hP
    have hP := hP _ ⟨G, M⟩ (FM.rf.st (by omega))
    simp only [e164, z164_0, z164_1, z164_2, z164_5, z164_6, z164_7, z164_8, z164_9, z164_12, z164_15, z164_16, z164_17, z164_18, z164_21, z164_22, z164_23, z164_26, z164_28, z164_29, z164_30, z164_31, z164_34, z164_36, z164_37, z164_41, z164_42, z164_44, z164_46, z164_49, z164_50, z164_53, z164_54, z164_55, z164_58, z164_60, z164_61, z164_62, z164_64, z164_65, z164_66, z164_67, z164_68, z164_69, z164_72, z164_75, z164_76, z164_77, z164_80, z164_81, z164_84, pv_catN, pv_cat1, pv_cat2, pv_cat3, pv_catL, Option.toList, List.nil_append, List.cons_append, List.append_nil, pv_rfS, pn_i, pn_r, pn_n, pn_o, true_and, and_true, Nat.le_refl, and_self, true_implies, false_implies, not_true_eq_false, not_false_eq_true, pv_b0, pv_b01, pv_bn0, pv_b1, Bool.false_eq_true, Bool.true_eq_false, Bool.not_false, Bool.not_true, pv_bT, pv_bF, eq_self, G.o, m100, in1, hI]
    exact hP
  | true =>
    obtain ⟨j, hj, rfl⟩ := inr_t hI
    have hcj := nI_clamp (show j < 2 ^ 31 by omega)
    generalize hh : pv_st h 102 0 0 = h0 at M
    have F0 : FM h h0 := hh ▸ FM.rf.st (by omega)
    have hk : cQ h0 j (tR (xT x)) (slotOf x (nI j)) := by
      unfold slotOf
      rw [hcj]
      by_cases cj : j = 0
      · subst cj; exact M.lo
      · obtain rfl : j = 1 := by omega
        exact M.hi
    rw [hI] at hP
    simp only [if_true] at hP
    generalize slotOf x (nI j) = kk at hP hk
    simp only [e164, z164_0, z164_1, z164_2, z164_5, z164_6, z164_7, z164_8, z164_9, z164_12, z164_15, z164_16, z164_17, z164_18, z164_21, z164_22, z164_23, z164_26, z164_28, z164_29, z164_30, z164_31, z164_34, z164_36, z164_37, z164_41, z164_42, z164_44, z164_46, z164_49, z164_50, z164_53, z164_54, z164_55, z164_58, z164_60, z164_61, z164_62, z164_64, z164_65, z164_66, z164_67, z164_68, z164_69, z164_72, z164_75, z164_76, z164_77, z164_80, z164_81, z164_84, pv_catN, pv_cat1, pv_cat2, pv_cat3, pv_catL, Option.toList, List.nil_append, List.cons_append, List.append_nil, pv_rfS, pn_i, pn_r, pn_n, pn_o, true_and, and_true, Nat.le_refl, and_self, true_implies, false_implies, not_true_eq_false, not_false_eq_true, pv_b0, pv_b01, pv_bn0, pv_b1, Bool.false_eq_true, Bool.true_eq_false, Bool.not_false, Bool.not_true, pv_bT, pv_bF, eq_self, G.o, m100, in1, hI, hh, G.r27, G.t119, G.r26, vp_nI hj (show 2 < 2 ^ 31 by decide), hcj, hk.1, L43]
    refine ⟨fun c => ?_, fun c => ?_⟩
    · obtain ⟨⟨s, ix⟩, rfl⟩ : ∃ k, kk = some k := by
        cases kk with
        | none => exact absurd rfl c
        | some k => exact ⟨k, rfl⟩
      obtain ⟨Kp, Ki⟩ := hk.2 s ix rfl
      rw [z164_38 (by simp [pv_cat, Value.category]) (by decide)]
      refine ⟨G.o, m129 (s := s) (R := tR (xT x)) G hR Kp G.t118 (show 43 * j + 35 ≤ 86 by omega) (by omega) (Or.inr rfl) fun h2 f1 f2 c1 c2 c3 c4 c5 c6 c7 => ?_⟩
      have loop : ∀ n r (h3 : PvH), r + n = 8 → (∀ o, o ≠ 111 → h3 o = h2 o) → (∀ e, e < r → h3 111 e = h2 118 (43 * j + 35 + e)) → pv_E (d + 1) 164 P 43 [some (.ref 102), some (.int (nI j)), some (.int (nI r))] [] 0 0 g h3 := by
        intro n
        induction n with
        | zero =>
          intro r h3 hr k1 k2
          have hr : r = 8 := hr
          subst hr
          have e15 : pv_st h3 102 25 0 102 15 = nI (sH s) := by rw [st_k (by omega), k1 102 (by omega)]; exact c5
          rw [z164_43]
          simp only [z164_0, z164_1, z164_2, z164_5, z164_6, z164_7, z164_8, z164_9, z164_12, z164_15, z164_16, z164_17, z164_18, z164_21, z164_22, z164_23, z164_26, z164_28, z164_29, z164_30, z164_31, z164_34, z164_36, z164_37, z164_38, z164_41, z164_42, z164_44, z164_46, z164_49, z164_50, z164_53, z164_54, z164_55, z164_58, z164_60, z164_61, z164_62, z164_64, z164_65, z164_66, z164_67, z164_68, z164_69, z164_72, z164_75, z164_76, z164_77, z164_80, z164_81, z164_84, pv_catN, pv_cat1, pv_cat2, pv_cat3, pv_catL, Option.toList, List.nil_append, List.cons_append, List.append_nil, pv_rfS, pn_i, pn_r, pn_n, pn_o, true_and, and_true, Nat.le_refl, and_self, true_implies, false_implies, not_true_eq_false, not_false_eq_true, pv_b0, pv_b01, pv_bn0, pv_b1, Bool.false_eq_true, Bool.true_eq_false, Bool.not_false, Bool.not_true, pv_bT, pv_bF, eq_self, le88, G.o, e15]
          refine hP _ ⟨G, cD.back M (fun o h1 h2 h3 h4 h5 h6 => by rw [st_o (by omega), k1 o h6, f1 o (by omega) h2 h3 h4 h5]) (fun k hk => by rw [st_k (by omega), k1 102 (by omega), f2 k (by omega) (by omega) (by omega)]) ?_ ?_ ?_ ?_ ?_ ?_ ?_ ?_ st_at⟩ (fun o ho => by rw [st_o (by omega), k1 o (by omega), f1 o (by omega) (by omega) (by omega) (by omega) (by omega)]; exact F0 o ho)
          · intro r hr; rw [st_o (by omega), k1 _ (by omega)]; exact c1 r hr
          · intro r hr; rw [st_o (by omega), k1 _ (by omega)]; exact c2 r hr
          · intro r hr; rw [st_o (by omega), k1 _ (by omega)]; exact c3 r hr
          · intro r hr; rw [st_o (by omega), k1 _ (by omega)]; exact c4 r hr
          · intro r hr; rw [st_o (by omega), k2 r (by omega), f1 118 (by omega) (by omega) (by omega) (by omega) (by omega)]; exact Ki r hr
          · rw [st_k (by omega), k1 _ (by omega)]; exact c5
          · rw [st_k (by omega), k1 _ (by omega)]; exact c6
          · rw [st_k (by omega), k1 _ (by omega)]; exact c7
        | succ n ih =>
          intro r h3 hr k1 k2
          have hr8 : r < 8 := by omega
          have ei : nI (43 * j) + 35 + nI r = nI (43 * j + 35 + r) := by rw [nL35, nI_add]
          rw [z164_43]
          simp only [z164_0, z164_1, z164_2, z164_5, z164_6, z164_7, z164_8, z164_9, z164_12, z164_15, z164_16, z164_17, z164_18, z164_21, z164_22, z164_23, z164_26, z164_28, z164_29, z164_30, z164_31, z164_34, z164_36, z164_37, z164_38, z164_41, z164_42, z164_44, z164_46, z164_49, z164_50, z164_53, z164_54, z164_55, z164_58, z164_60, z164_61, z164_62, z164_64, z164_65, z164_66, z164_67, z164_68, z164_69, z164_72, z164_75, z164_76, z164_77, z164_80, z164_81, z164_84, pv_catN, pv_cat1, pv_cat2, pv_cat3, pv_catL, Option.toList, List.nil_append, List.cons_append, List.append_nil, pv_rfS, pn_i, pn_r, pn_n, pn_o, true_and, and_true, Nat.le_refl, and_self, true_implies, false_implies, not_true_eq_false, not_false_eq_true, pv_b0, pv_b01, pv_bn0, pv_b1, Bool.false_eq_true, Bool.true_eq_false, Bool.not_false, Bool.not_true, pv_bT, pv_bF, eq_self, le8 hr8, G.o, G.r26, G.t118, G.r13, G.t111, L43, ei, vp_nI (show 43 * j + 35 + r < 86 by omega) (by decide), nI_clamp (show 43 * j + 35 + r < 2 ^ 31 by omega), vp_nI hr8 (show 8 < 2 ^ 31 by decide), nI_clamp (show r < 2 ^ 31 by omega), nI_1]
          refine ih (r + 1) _ (by omega) (fun o ho => by rw [st_o ho, k1 o ho]) (fun e he => ?_)
          by_cases z : e = r
          · subst z; rw [st_at, k1 118 (by omega)]
          · rw [st_k (by omega), k2 e (by omega)]
      simp only [z164_41, z164_42, pv_catN, pv_cat1, pv_cat2, pv_cat3, pv_catL, Option.toList, List.nil_append, List.cons_append, List.append_nil, pv_rfS, pn_i, pn_r, pn_n, pn_o, true_and, and_true, Nat.le_refl, and_self, true_implies, false_implies, not_true_eq_false, not_false_eq_true, pv_b0, pv_b01, pv_bn0, pv_b1, Bool.false_eq_true, Bool.true_eq_false, Bool.not_false, Bool.not_true, pv_bT, pv_bF, eq_self]
      exact loop 8 0 h2 rfl (fun _ _ => rfl) (fun e he => absurd he (Nat.not_lt_zero e))
    · have c : kk = none := by
        cases kk with
        | none => rfl
        | some k => exact absurd c (by simp)
      subst c
      exact hP h0 ⟨G, M⟩ F0
