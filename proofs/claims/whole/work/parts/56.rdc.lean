/-! THE READER of the class: what lies where, its small methods -/
def cR1 (h : PvH) (s : RS) : Prop := h 2 1 = nI (aS s) ∧ (2 ≤ aS s → h 2 2 = nI (aL s)) ∧ (aS s = 3 → h 2 3 = nI (aT s)) ∧ (6 ≤ aS s ∧ aS s ≤ 9 → h 2 5 = nI (aw s)) ∧ (7 ≤ aS s ∧ aS s ≤ 9 → h 2 6 = nI (av s)) ∧ (8 ≤ aS s ∧ aS s ≤ 9 → h 2 7 = nI (aa s)) ∧ (aS s = 9 → h 2 8 = nI (ak s)) ∧ (aS s = 11 → h 2 9 = nI (ai s))
theorem cR1_mk {h : PvH} {s : RS} {S : Nat} (hS : aS s = S) (a : h 2 1 = nI S) (b : 2 ≤ S → h 2 2 = nI (aL s)) (c : S = 3 → h 2 3 = nI (aT s)) (d : 6 ≤ S ∧ S ≤ 9 → h 2 5 = nI (aw s)) (e : 7 ≤ S ∧ S ≤ 9 → h 2 6 = nI (av s)) (f : 8 ≤ S ∧ S ≤ 9 → h 2 7 = nI (aa s)) (i : S = 9 → h 2 8 = nI (ak s)) (j : S = 11 → h 2 9 = nI (ai s)) : cR1 h s := by
  subst hS
  exact ⟨a, b, c, d, e, f, i, j⟩
def cR2 (h : PvH) (tt : Nat) (s : RS) : Prop := h tt 0 = nI (aF s) ∧ h tt 2 = nI (aR s) ∧ (∀ f, f < aL s → h 11 f = nI (aM s f) ∧ h (tt + 1) f = nI (aB s f)) ∧ ∀ r, r < aR s → h (tt + 2) r = nI (aW s r) ∧ h (tt + 3) r = nI (aV s r) ∧ h (tt + 4) r = nI (aA s r) ∧ h (tt + 5) r = nI (aK s r) ∧ h (tt + 6) r = nI (aG s r) ∧ h (tt + 7) r = nI (aC s r)
theorem cR2.fr {h h' : PvH} {tt : Nat} {s : RS} (C : cR2 h tt s) (f : h' 11 = h 11) (t : ∀ a, tt ≤ a → a ≤ tt + 7 → h' a = h a) : cR2 h' tt s := by
  unfold cR2 at C ⊢
  rw [f, t tt (by omega) (by omega), t (tt + 1) (by omega) (by omega), t (tt + 2) (by omega) (by omega), t (tt + 3) (by omega) (by omega), t (tt + 4) (by omega) (by omega), t (tt + 5) (by omega) (by omega), t (tt + 6) (by omega) (by omega), t (tt + 7) (by omega) (by omega)]
  exact C
def FRd (h h' : PvH) (tt : Nat) : Prop := ∀ o, o ≠ 2 → o ≠ 11 → (o < tt ∨ tt + 7 < o) → h' o = h o
theorem FRd.rf {h : PvH} {tt : Nat} : FRd h h tt := fun _ _ _ _ => rfl
theorem FRd.tr {a b c : PvH} {tt : Nat} (h1 : FRd a b tt) (h2 : FRd b c tt) : FRd a c tt := fun o x y z => (h2 o x y z).trans (h1 o x y z)
theorem FRd.s2 {a b : PvH} {tt : Nat} (h1 : FRd a b tt) {k : Nat} {v : Int32} : FRd a (pv_st b 2 k v) tt := fun o x y z => (st_o x).trans (h1 o x y z)
theorem FRd.s11 {a b : PvH} {tt : Nat} (h1 : FRd a b tt) {k : Nat} {v : Int32} : FRd a (pv_st b 11 k v) tt := fun o x y z => (st_o y).trans (h1 o x y z)
theorem FRd.st {a b : PvH} {tt : Nat} (h1 : FRd a b tt) {j k : Nat} {v : Int32} (hj : tt ≤ j ∧ j ≤ tt + 7) : FRd a (pv_st b j k v) tt := fun o x y z => (st_o (by omega)).trans (h1 o x y z)
def TP (P : PvP) (g : PvG) (h : PvH) (tt : Nat) (o : Option RS) : Prop := (o = none → ∀ h', FRd h h' tt → P (some (.int 0)) g h') ∧ (∀ s', o = some s' → ∀ h', FRd h h' tt → cR1 h' s' → cR2 h' tt s' → P (some (.int 1)) g h')
theorem TP.im {P Q : PvP} {g : PvG} {h : PvH} {tt : Nat} {o : Option RS} (T : TP P g h tt o) (H0 : ∀ h', P (some (.int 0)) g h' → Q (some (.int 0)) g h') (H1 : ∀ h', P (some (.int 1)) g h' → Q (some (.int 1)) g h') : TP Q g h tt o := ⟨fun z h' f => H0 h' (T.1 z h' f), fun s' z h' f a b => H1 h' (T.2 s' z h' f a b)⟩
theorem okA.b {s : RS} (O : okA s) : okB s := O.2.2.2.2.2.2.2.2.2.2.2.2.2.2
theorem okA.R {s : RS} (O : okA s) : aR s ≤ 8 := O.2.2.2.2.2.2.2.2.2.2.2.1
theorem okA.L {s : RS} (O : okA s) (h : 4 ≤ aS s) : aL s = aF s := O.2.2.2.2.1 h
theorem okA.F {s : RS} (O : okA s) (h : 2 ≤ aS s) : 2 ≤ aF s ∧ aF s ≤ 5 := O.2.1 h
theorem okA.M {s : RS} (O : okA s) (h4 : 4 ≤ aS s) {f : Nat} (hf : f < aF s) : aM s f ≤ 99 := by
  have := O.b.1 f (by rw [O.L h4]; exact hf)
  omega
theorem okA.C8 {s : RS} (O : okA s) {r : Nat} (hr : r < aR s) : aC s r < 256 := p8 (O.b.2.1 r hr).2.2.2.2.2.2.1 O.R
theorem gC.t2 {g : PvG} {rt tt : Nat} {q : Nat → Nat} (G : gC g rt tt q) : tt = 3 ∨ tt = 12 := by
  have := G.rt
  omega
theorem lt0N {f : Nat} (h : f < 2 ^ 30) : (nI f < 0) = False := eq_false (by rw [show (0 : Int32) = nI 0 from rfl, nI_lt' (by omega) (by decide)]; omega)
theorem m31 {d : Nat} {P : PvP} {g : PvG} {h : PvH} {rt tt : Nat} {q : Nat → Nat} {s : RS} (G : gC g rt tt q) (C : cR2 h tt s) (O : okA s) (h4 : 4 ≤ aS s) {w : Nat} (hw : w ≤ 9) (hP : P (some (.int (pv_b (aH s w)))) g h) : pv_run (d + 1) 31 [.ref 2, .int (nI w)] g h P := by
  obtain ⟨T0, T1, T3, T4, T5, T6, T7, T8, u1, u2, u3, u4, u5, u6, u7⟩ := G.Tt
  have hF := (O.F (by omega)).2
  have hL := O.L h4
  have loop : ∀ n f, f + n = aF s → anyN (fun g => decide (w ≤ aM s g)) f = false → pv_E d 31 P 2 [some (.ref 2), some (.int (nI w)), some (.int (nI f))] [] 0 0 g h := by
    intro n
    induction n with
    | zero =>
      intro f hf hn
      have hf : f = aF s := hf
      subst hf
      have e : aH s w = false := hn
      rw [e] at hP
      rw [z31_2]
      simp only [z31_3, z31_4, z31_7, z31_10, z31_31, z31_32, pv_catN, pv_cat1, pv_cat2, pv_cat3, pv_catL, Option.toList, List.nil_append, List.cons_append, List.append_nil, pv_rfS, pn_i, pn_r, pn_n, pn_o, true_and, and_true, Nat.le_refl, and_self, true_implies, false_implies, not_true_eq_false, not_false_eq_true, pv_b0, pv_b01, pv_bn0, pv_b1, Bool.false_eq_true, Bool.true_eq_false, Bool.not_false, Bool.not_true, pv_bT, pv_bF, eq_self, true_or, or_true, G.o2, G.r2_0, T0, C.1, nI_le' (show aF s < 2 ^ 31 by omega) (show aF s < 2 ^ 31 by omega)]
      exact hP
    | succ n ih =>
      intro f hf hn
      have hfF : f < aF s := by omega
      have hM := O.M h4 hfF
      rw [z31_2]
      simp only [z31_3, z31_4, z31_7, z31_10, z31_13, z31_14, z31_17, z31_18, z31_19, z31_20, z31_23, z31_24, z31_25, z31_28, pv_catN, pv_cat1, pv_cat2, pv_cat3, pv_catL, Option.toList, List.nil_append, List.cons_append, List.append_nil, pv_rfS, pn_i, pn_r, pn_n, pn_o, true_and, and_true, Nat.le_refl, and_self, true_implies, false_implies, not_true_eq_false, not_false_eq_true, pv_b0, pv_b01, pv_bn0, pv_b1, Bool.false_eq_true, Bool.true_eq_false, Bool.not_false, Bool.not_true, pv_bT, pv_bF, eq_self, true_or, or_true, G.o2, G.r2_0, G.r2_4, T0, C.1, nI_le' (show aF s < 2 ^ 31 by omega) (show f < 2 ^ 31 by omega), show (aF s ≤ f) = False from eq_false (by omega), G.t11, vp_nI (show f < 5 by omega) (show 5 < 2 ^ 31 by decide), nI_clamp (show f < 2 ^ 31 by omega), (C.2.2.1 f (by omega)).1, nI_lt' (show aM s f < 2 ^ 31 by omega) (show w < 2 ^ 31 by omega), nI_1]
      refine ⟨fun c => ih (f + 1) (by omega) ?_, fun c => ?_⟩
      · unfold anyN
        rw [hn, decide_eq_false (by omega)]
        rfl
      · have e : aH s w = true := anyN_yes hfF (decide_eq_true (by omega))
        rw [e] at hP
        exact hP
  simp only [e31, z31_0, z31_1, pv_catN, pv_cat1, pv_cat2, pv_cat3, pv_catL, Option.toList, List.nil_append, List.cons_append, List.append_nil, pv_rfS, pn_i, pn_r, pn_n, pn_o, true_and, and_true, Nat.le_refl, and_self, true_implies, false_implies, not_true_eq_false, not_false_eq_true, pv_b0, pv_b01, pv_bn0, pv_b1, Bool.false_eq_true, Bool.true_eq_false, Bool.not_false, Bool.not_true, pv_bT, pv_bF, eq_self]
  exact loop (aF s) 0 (Nat.zero_add _) rfl
theorem m32 {d : Nat} {P : PvP} {g : PvG} {h : PvH} {rt tt : Nat} {q : Nat → Nat} {s : RS} (G : gC g rt tt q) (C : cR2 h tt s) (O : okA s) (hP : P (some (.int (if 0 < aR s then nI (aG s (aR s - 1)) else -1))) g h) : pv_run (d + 1) 32 [.ref 2] g h P := by
  obtain ⟨T0, T1, T3, T4, T5, T6, T7, T8, u1, u2, u3, u4, u5, u6, u7⟩ := G.Tt
  have hR := O.R
  have e0 : (nI (aR s) ≤ 0) = (aR s ≤ 0) := nI_le' (b := 0) (by omega) (by decide)
  simp only [e32, z32_0, z32_1, z32_4, z32_7, z32_30, z32_31, pv_catN, pv_cat1, pv_cat2, pv_cat3, pv_catL, Option.toList, List.nil_append, List.cons_append, List.append_nil, pv_rfS, pn_i, pn_r, pn_n, pn_o, true_and, and_true, Nat.le_refl, and_self, true_implies, false_implies, not_true_eq_false, not_false_eq_true, pv_b0, pv_b01, pv_bn0, pv_b1, Bool.false_eq_true, Bool.true_eq_false, Bool.not_false, Bool.not_true, pv_bT, pv_bF, eq_self, true_or, or_true, G.o2, G.r2_0, T0, C.2.1, e0]
  refine ⟨fun c => ?_, fun c => ?_⟩
  · rw [if_neg (by omega)] at hP
    exact hP
  · have es : nI (aR s) - 1 = nI (aR s - 1) := pk_sub (b := 1) (by omega)
    have eg := (C.2.2.2 (aR s - 1) (by omega)).2.2.2.2.1
    rw [if_pos (by omega)] at hP
    simp only [z32_10, z32_11, z32_14, z32_17, z32_18, z32_21, z32_24, z32_25, z32_26, z32_27, z32_31, pv_catN, pv_cat1, pv_cat2, pv_cat3, pv_catL, Option.toList, List.nil_append, List.cons_append, List.append_nil, pv_rfS, pn_i, pn_r, pn_n, pn_o, true_and, and_true, Nat.le_refl, and_self, true_implies, false_implies, not_true_eq_false, not_false_eq_true, pv_b0, pv_b01, pv_bn0, pv_b1, Bool.false_eq_true, Bool.true_eq_false, Bool.not_false, Bool.not_true, pv_bT, pv_bF, eq_self, true_or, or_true, G.o2, G.r2_0, T0, T7, u6, C.2.1, es, vp_nI (show aR s - 1 < 8 by omega) (show 8 < 2 ^ 31 by decide), nI_clamp (show aR s - 1 < 2 ^ 31 by omega), eg]
    exact hP
theorem m33 {d : Nat} {P : PvP} {g : PvG} {h : PvH} {rt tt : Nat} {q : Nat → Nat} {s : RS} (G : gC g rt tt q) (C1 : h 2 5 = nI (aw s)) (hw : aw s ≤ 9) (C : cR2 h tt s) (O : okA s) (h6 : 4 ≤ aS s) {f : Nat} (hf : f < 2 ^ 30) (hP : P (some (.int (pv_b (aBe s f)))) g h) : pv_run (d + 1) 33 [.ref 2, .int (nI f)] g h P := by
  obtain ⟨T0, T1, T3, T4, T5, T6, T7, T8, u1, u2, u3, u4, u5, u6, u7⟩ := G.Tt
  have hF := (O.F (by omega)).2
  have hL := O.L h6
  simp only [e33, z33_0, z33_1, z33_4, z33_5, z33_6, z33_9, z33_12, z33_32, z33_33, pv_catN, pv_cat1, pv_cat2, pv_cat3, pv_catL, Option.toList, List.nil_append, List.cons_append, List.append_nil, pv_rfS, pn_i, pn_r, pn_n, pn_o, true_and, and_true, Nat.le_refl, and_self, true_implies, false_implies, not_true_eq_false, not_false_eq_true, pv_b0, pv_b01, pv_bn0, pv_b1, Bool.false_eq_true, Bool.true_eq_false, Bool.not_false, Bool.not_true, pv_bT, pv_bF, eq_self, true_or, or_true, lt0N hf, G.o2, G.r2_0, T0, C.1, nI_le' (show aF s < 2 ^ 31 by omega) (show f < 2 ^ 31 by omega)]
  refine ⟨fun c => ?_, fun c => ?_⟩
  · have e : aBe s f = false := by unfold aBe; rw [decide_eq_false (by omega)]; rfl
    rw [e] at hP
    exact hP
  · have hM := O.M h6 (show f < aF s by omega)
    simp only [z33_15, z33_16, z33_19, z33_20, z33_21, z33_22, z33_25, z33_28, z33_29, z33_32, z33_33, pv_catN, pv_cat1, pv_cat2, pv_cat3, pv_catL, Option.toList, List.nil_append, List.cons_append, List.append_nil, pv_rfS, pn_i, pn_r, pn_n, pn_o, true_and, and_true, Nat.le_refl, and_self, true_implies, false_implies, not_true_eq_false, not_false_eq_true, pv_b0, pv_b01, pv_bn0, pv_b1, Bool.false_eq_true, Bool.true_eq_false, Bool.not_false, Bool.not_true, pv_bT, pv_bF, eq_self, true_or, or_true, G.o2, G.r2_4, G.t11, vp_nI (show f < 5 by omega) (show 5 < 2 ^ 31 by decide), nI_clamp (show f < 2 ^ 31 by omega), (C.2.2.1 f (by omega)).1, C1, nI_lt' (show aM s f < 2 ^ 31 by omega) (show aw s < 2 ^ 31 by omega)]
    refine ⟨fun c2 => ?_, fun c2 => ?_⟩
    · have e : aBe s f = false := by unfold aBe; rw [decide_eq_false (show ¬ aw s ≤ aM s f by omega), Bool.and_false]
      rw [e] at hP
      exact hP
    · have e : aBe s f = true := by unfold aBe; rw [decide_eq_true (show aw s ≤ aM s f by omega), decide_eq_true (show f < aF s by omega)]; rfl
      rw [e] at hP
      exact hP
theorem m33n {d : Nat} {P : PvP} {g : PvG} {h : PvH} (hP : P (some (.int 0)) g h) : pv_run (d + 1) 33 [.ref 2, .int (-1)] g h P := by
  simp only [e33, z33_0, z33_1, z33_32, z33_33, pv_catN, pv_cat1, pv_cat2, pv_cat3, pv_catL, Option.toList, List.nil_append, List.cons_append, List.append_nil, pv_rfS, pn_i, pn_r, pn_n, pn_o, true_and, and_true, Nat.le_refl, and_self, true_implies, false_implies, not_true_eq_false, not_false_eq_true, pv_b0, pv_b01, pv_bn0, pv_b1, Bool.false_eq_true, Bool.true_eq_false, Bool.not_false, Bool.not_true, pv_bT, pv_bF, eq_self, true_or, or_true, neg1]
  exact hP
theorem andnot {a c : Nat} : nI a &&& (nI c ^^^ (-1)) = nI (a &&& (a ^^^ c)) := by
  apply Int32.toBitVec_inj.mp
  show BitVec.ofNat 32 a &&& (BitVec.ofNat 32 c ^^^ (-1 : BitVec 32)) = BitVec.ofNat 32 (a &&& (a ^^^ c))
  rw [BitVec.ofNat_and, BitVec.ofNat_xor]
  generalize BitVec.ofNat 32 a = x
  generalize BitVec.ofNat 32 c = y
  have e : (-1 : BitVec 32) = BitVec.allOnes 32 := by decide
  rw [e]
  ext i hi
  rw [BitVec.getElem_and, BitVec.getElem_and, BitVec.getElem_xor, BitVec.getElem_xor, BitVec.getElem_allOnes]
  cases x[i] <;> cases y[i] <;> rfl
theorem mk_any {p : Nat → Bool} : ∀ {n}, (mk p n = 0) = (anyN p n = false)
  | 0 => by simp [mk, anyN]
  | n + 1 => by
    apply propext
    unfold mk anyN
    rw [Bool.or_eq_false_iff, ← mk_any]
    constructor
    · intro h
      have h1 := Nat.or_eq_zero_iff.mp h
      refine ⟨h1.1, ?_⟩
      cases z : p n with
      | false => rfl
      | true =>
        have h2 := h1.2
        rw [z, if_pos rfl] at h2
        have := Nat.two_pow_pos n
        omega
    · rintro ⟨h1, h2⟩
      rw [h1, h2, if_neg Bool.false_ne_true]
      rfl
theorem rdcN {s : RS} {i : Nat} (hi : i < aR s) : ((2 ^ aR s - 1) &&& ((2 ^ aR s - 1) ^^^ 2 ^ i)) &&& (((2 ^ aR s - 1) &&& ((2 ^ aR s - 1) ^^^ 2 ^ i)) ^^^ aC s i) = mk (aCit s i) (aR s) := by
  have hp := Nat.two_pow_pos (aR s)
  refine bit_ext (n := aR s) ?_ (mk_lt _ _) (fun r hr => ?_)
  · have h1 := Nat.and_le_left (n := (2 ^ aR s - 1) &&& ((2 ^ aR s - 1) ^^^ 2 ^ i)) (m := ((2 ^ aR s - 1) &&& ((2 ^ aR s - 1) ^^^ 2 ^ i)) ^^^ aC s i)
    have h2 := Nat.and_le_left (n := 2 ^ aR s - 1) (m := (2 ^ aR s - 1) ^^^ 2 ^ i)
    omega
  · rw [mk_bit, decide_eq_true hr, Bool.true_and]
    simp only [Nat.testBit_and, Nat.testBit_xor, Nat.testBit_two_pow_sub_one, Nat.testBit_two_pow, decide_eq_true hr]
    unfold aCit
    by_cases z : i = r
    · subst z; simp
    · rw [decide_eq_false z, decide_eq_false (fun y => z y.symm)]
      simp
theorem m36 {d : Nat} {P : PvP} {g : PvG} {h : PvH} {rt tt : Nat} {q : Nat → Nat} {s : RS} (G : gC g rt tt q) (C : cR2 h tt s) (O : okA s) {i : Nat} (hi : i < aR s) : pv_run (d + 1) 36 [.ref 2, .int (nI i)] g h P = P (some (.int (nI (mk (aCit s i) (aR s))))) g h := by
  obtain ⟨T0, T1, T3, T4, T5, T6, T7, T8, u1, u2, u3, u4, u5, u6, u7⟩ := G.Tt
  have hR := O.R
  have hp := Nat.two_pow_pos (aR s)
  have es : nI (2 ^ aR s) - 1 = nI (2 ^ aR s - 1) := pk_sub (b := 1) (by omega)
  simp only [e36, z36_0, z36_1, z36_2, z36_5, z36_8, z36_9, z36_10, z36_11, z36_12, z36_13, z36_14, z36_15, z36_16, z36_17, z36_18, z36_19, z36_20, z36_23, z36_26, z36_27, z36_28, z36_29, z36_30, z36_31, pv_catN, pv_cat1, pv_cat2, pv_cat3, pv_catL, Option.toList, List.nil_append, List.cons_append, List.append_nil, pv_rfS, pn_i, pn_r, pn_n, pn_o, true_and, and_true, Nat.le_refl, and_self, true_implies, false_implies, not_true_eq_false, not_false_eq_true, pv_b0, pv_b01, pv_bn0, pv_b1, Bool.false_eq_true, Bool.true_eq_false, Bool.not_false, Bool.not_true, pv_bT, pv_bF, eq_self, true_or, or_true, G.o2, G.r2_0, T0, T8, u7, C.2.1, shlN (show aR s < 31 by omega), shlN (show i < 31 by omega), es, andnot, vp_nI (show i < 8 by omega) (show 8 < 2 ^ 31 by decide), nI_clamp (show i < 2 ^ 31 by omega), (C.2.2.2 i hi).2.2.2.2.2, rdcN hi]
theorem m35 {d : Nat} {P : PvP} {g : PvG} {h : PvH} {rt tt : Nat} {q : Nat → Nat} {s : RS} (G : gC g rt tt q) (C : cR2 h tt s) (O : okA s) {i : Nat} (hi : i < 2 ^ 30) (hP : P (some (.int (pv_b (aCan s i)))) g h) : pv_run (d + 2) 35 [.ref 2, .int (nI i)] g h P := by
  obtain ⟨T0, T1, T3, T4, T5, T6, T7, T8, u1, u2, u3, u4, u5, u6, u7⟩ := G.Tt
  have hR := O.R
  simp only [e35, z35_0, z35_1, z35_4, z35_5, z35_6, z35_9, z35_12, z35_27, z35_28, pv_catN, pv_cat1, pv_cat2, pv_cat3, pv_catL, Option.toList, List.nil_append, List.cons_append, List.append_nil, pv_rfS, pn_i, pn_r, pn_n, pn_o, true_and, and_true, Nat.le_refl, and_self, true_implies, false_implies, not_true_eq_false, not_false_eq_true, pv_b0, pv_b01, pv_bn0, pv_b1, Bool.false_eq_true, Bool.true_eq_false, Bool.not_false, Bool.not_true, pv_bT, pv_bF, eq_self, true_or, or_true, lt0N hi, G.o2, G.r2_0, T0, C.2.1, nI_le' (show aR s < 2 ^ 31 by omega) (show i < 2 ^ 31 by omega)]
  refine ⟨fun c => ?_, fun c => ?_⟩
  · have e : aCan s i = false := by unfold aCan; rw [decide_eq_false (by omega)]; rfl
    rw [e] at hP
    exact hP
  · have hiR : i < aR s := by omega
    have hm : mk (aCit s i) (aR s) < 256 := p8 (mk_lt _ _) hR
    have ez : (nI (mk (aCit s i) (aR s)) = 0) = (mk (aCit s i) (aR s) = 0) := nI_eq' (b := 0) (by omega) (by decide)
    simp only [z35_15, z35_16, z35_17, z35_20, z35_23, z35_24, z35_27, z35_28, pv_catN, pv_cat1, pv_cat2, pv_cat3, pv_catL, Option.toList, List.nil_append, List.cons_append, List.append_nil, pv_rfS, pn_i, pn_r, pn_n, pn_o, true_and, and_true, Nat.le_refl, and_self, true_implies, false_implies, not_true_eq_false, not_false_eq_true, pv_b0, pv_b01, pv_bn0, pv_b1, Bool.false_eq_true, Bool.true_eq_false, Bool.not_false, Bool.not_true, pv_bT, pv_bF, eq_self, true_or, or_true, G.o2, m36 G C O hiR, ez, mk_any]
    unfold aCan at hP
    rw [decide_eq_true hiR, Bool.true_and] at hP
    refine br (fun c2 => ?_) (fun c2 => ?_)
    · rw [c2] at hP; exact hP
    · rw [c2] at hP; exact hP
theorem m34 {d : Nat} {P : PvP} {g : PvG} {h : PvH} {rt tt : Nat} {q : Nat → Nat} {s : RS} (G : gC g rt tt q) (C : cR2 h tt s) (O : okA s) (hP : P (some (.int (pv_b (anyN (aCan s) (aR s))))) g h) : pv_run (d + 3) 34 [.ref 2] g h P := by
  obtain ⟨T0, T1, T3, T4, T5, T6, T7, T8, u1, u2, u3, u4, u5, u6, u7⟩ := G.Tt
  have hR := O.R
  have loop : ∀ n r, r + n = aR s → anyN (aCan s) r = false → pv_E (d + 2) 34 P 2 [some (.ref 2), some (.int (nI r))] [] 0 0 g h := by
    intro n
    induction n with
    | zero =>
      intro r hr hn
      have hr : r = aR s := hr
      subst hr
      rw [hn] at hP
      rw [z34_2]
      simp only [z34_3, z34_4, z34_7, z34_10, z34_29, z34_30, pv_catN, pv_cat1, pv_cat2, pv_cat3, pv_catL, Option.toList, List.nil_append, List.cons_append, List.append_nil, pv_rfS, pn_i, pn_r, pn_n, pn_o, true_and, and_true, Nat.le_refl, and_self, true_implies, false_implies, not_true_eq_false, not_false_eq_true, pv_b0, pv_b01, pv_bn0, pv_b1, Bool.false_eq_true, Bool.true_eq_false, Bool.not_false, Bool.not_true, pv_bT, pv_bF, eq_self, true_or, or_true, G.o2, G.r2_0, T0, C.2.1, nI_le' (show aR s < 2 ^ 31 by omega) (show aR s < 2 ^ 31 by omega)]
      exact hP
    | succ n ih =>
      intro r hr hn
      have hrR : r < aR s := by omega
      rw [z34_2]
      simp only [z34_3, z34_4, z34_7, z34_10, z34_13, z34_14, pv_catN, pv_cat1, pv_cat2, pv_cat3, pv_catL, Option.toList, List.nil_append, List.cons_append, List.append_nil, pv_rfS, pn_i, pn_r, pn_n, pn_o, true_and, and_true, Nat.le_refl, and_self, true_implies, false_implies, not_true_eq_false, not_false_eq_true, pv_b0, pv_b01, pv_bn0, pv_b1, Bool.false_eq_true, Bool.true_eq_false, Bool.not_false, Bool.not_true, pv_bT, pv_bF, eq_self, true_or, or_true, G.o2, G.r2_0, T0, C.2.1, nI_le' (show aR s < 2 ^ 31 by omega) (show r < 2 ^ 31 by omega), show (aR s ≤ r) = False from eq_false (by omega)]
      rw [z34_15 (by simp [pv_cat, Value.category]) (by decide)]
      refine ⟨G.o2, m35 G C O (by omega) ?_⟩
      simp only [z34_18, z34_21, z34_22, z34_23, z34_26, pv_catN, pv_cat1, pv_cat2, pv_cat3, pv_catL, Option.toList, List.nil_append, List.cons_append, List.append_nil, pv_rfS, pn_i, pn_r, pn_n, pn_o, true_and, and_true, Nat.le_refl, and_self, true_implies, false_implies, not_true_eq_false, not_false_eq_true, pv_b0, pv_b01, pv_bn0, pv_b1, Bool.false_eq_true, Bool.true_eq_false, Bool.not_false, Bool.not_true, pv_bT, pv_bF, eq_self, true_or, or_true, nI_1]
      refine br (fun c => ih (r + 1) (by omega) ?_) (fun c => ?_)
      · unfold anyN
        rw [hn, c]
        rfl
      · rw [anyN_yes hrR c] at hP
        exact hP
  simp only [e34, z34_0, z34_1, pv_catN, pv_cat1, pv_cat2, pv_cat3, pv_catL, Option.toList, List.nil_append, List.cons_append, List.append_nil, pv_rfS, pn_i, pn_r, pn_n, pn_o, true_and, and_true, Nat.le_refl, and_self, true_implies, false_implies, not_true_eq_false, not_false_eq_true, pv_b0, pv_b01, pv_bn0, pv_b1, Bool.false_eq_true, Bool.true_eq_false, Bool.not_false, Bool.not_true, pv_bT, pv_bF, eq_self]
  exact loop (aR s) 0 (Nat.zero_add _) rfl
