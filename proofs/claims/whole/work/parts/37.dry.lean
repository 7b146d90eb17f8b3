/-! chances that water comes two floors at once -/
def dOrd (d : Nat) : Nat → Nat
  | 0 => 1
  | k + 1 => dOrd d k * (d - k) / (k + 1)
def dTm (d y k : Nat) : Nat := dOrd d k * y ^ k * (10 - y) ^ (d - k)
def dWy (w p d y n : Nat) : Nat := sm (fun k => if w + d + k ≤ p then dTm d y k else 0) n
theorem dOrd_le : ∀ d, d < 10 → ∀ k, k < 12 → dOrd d k * (d - k) ≤ 2000 := by decide +kernel
theorem dTm_le : ∀ d, d < 10 → ∀ y, y < 11 → ∀ k, k < 10 → dTm d y k ≤ 10 ^ 9 := by decide +kernel
theorem dWy_le {w p d y n : Nat} (hd : d < 10) (hy : y < 11) (hn : n ≤ 10) : dWy w p d y n ≤ 10 ^ 10 := by
  have h := sm_le (f := fun k => if w + d + k ≤ p then dTm d y k else 0) (b := 10 ^ 9) (n := n) (fun k hk => by
    have := dTm_le d hd y hy k (by omega)
    show (if w + d + k ≤ p then dTm d y k else 0) ≤ 10 ^ 9
    split <;> omega)
  unfold dWy
  have := Nat.mul_le_mul (Nat.le_refl (10 ^ 9)) hn
  omega
theorem sm_stop {f : Nat → Nat} {n : Nat} : ∀ {m}, n ≤ m → (∀ k, n ≤ k → k < m → f k = 0) → sm f m = sm f n := by
  intro m
  induction m with
  | zero => intro h _; rw [show n = 0 by omega]
  | succ m ih =>
    intro h hz
    rcases Nat.eq_or_lt_of_le h with z | z
    · rw [z]
    · show sm f m + f m = sm f n
      rw [hz m (by omega) (by omega), Nat.add_zero]
      exact ih (by omega) (fun k h1 h2 => hz k h1 (by omega))
theorem lN1' : (1 : Int64) = lN 1 := rfl
theorem m95 {d : Nat} {P : PvP} {g : PvG} {h : PvH} {b e : Nat} (hb : b < 2 ^ 31) (he : e < 2 ^ 31) (hP : P (some (.long (lN (b ^ e)))) g h) : pv_run (d + 1) 95 [.int (nI b), .int (nI e)] g h P := by
  have loop : ∀ n i, i + n = e → pv_E d 95 P 5 [some (.int (nI b)), some (.int (nI e)), some (.long (lN (b ^ i))), none, some (.int (nI i))] [] 0 0 g h := by
    intro n
    induction n with
    | zero =>
      intro i hi
      have hi : i = e := hi
      subst hi
      rw [z95_5]
      simp only [z95_0, z95_1, z95_2, z95_3, z95_7, z95_8, z95_11, z95_12, z95_13, z95_14, z95_15, z95_16, z95_19, z95_22, z95_23, pv_catN, pv_cat1, pv_cat2, pv_cat3, pv_catL, Option.toList, List.nil_append, List.cons_append, List.append_nil, pv_rfS, pn_i, pn_r, pn_n, pn_o, true_and, and_true, Nat.le_refl, and_self, true_implies, false_implies, not_true_eq_false, not_false_eq_true, pv_b0, pv_b01, pv_bn0, pv_b1, Bool.false_eq_true, Bool.true_eq_false, Bool.not_false, Bool.not_true, pv_bT, pv_bF, eq_self, nI_le' he he]
      exact hP
    | succ n ih =>
      intro i hi
      rw [z95_5]
      simp only [z95_0, z95_1, z95_2, z95_3, z95_7, z95_8, z95_11, z95_12, z95_13, z95_14, z95_15, z95_16, z95_19, z95_22, z95_23, pv_catN, pv_cat1, pv_cat2, pv_cat3, pv_catL, Option.toList, List.nil_append, List.cons_append, List.append_nil, pv_rfS, pn_i, pn_r, pn_n, pn_o, true_and, and_true, Nat.le_refl, and_self, true_implies, false_implies, not_true_eq_false, not_false_eq_true, pv_b0, pv_b01, pv_bn0, pv_b1, Bool.false_eq_true, Bool.true_eq_false, Bool.not_false, Bool.not_true, pv_bT, pv_bF, eq_self, nI_le' he (show i < 2 ^ 31 by omega), show (e ≤ i) = False from eq_false (by omega), l31 hb, lN_mul, nI_1]
      have := ih (i + 1) (by omega)
      rw [Nat.pow_succ] at this
      exact this
  simp only [e95, z95_0, z95_1, z95_2, z95_3, pv_catN, pv_cat1, pv_cat2, pv_cat3, pv_catL, Option.toList, List.nil_append, List.cons_append, List.append_nil, pv_rfS, pn_i, pn_r, pn_n, pn_o, true_and, and_true, Nat.le_refl, and_self, true_implies, false_implies, not_true_eq_false, not_false_eq_true, pv_b0, pv_b01, pv_bn0, pv_b1, Bool.false_eq_true, Bool.true_eq_false, Bool.not_false, Bool.not_true, pv_bT, pv_bF, eq_self, lN1']
  exact loop e 0 (Nat.zero_add _)
theorem m161 {d : Nat} {P : PvP} {g : PvG} {h : PvH} {b e : Nat} (he : e < 2 ^ 31) (hP : P (some (.long (lN (b ^ e)))) g h) : pv_run (d + 1) 161 [.long (lN b), .int (nI e)] g h P := by
  have loop : ∀ n i, i + n = e → pv_E d 161 P 5 [some (.long (lN b)), none, some (.int (nI e)), some (.long (lN (b ^ i))), none, some (.int (nI i))] [] 0 0 g h := by
    intro n
    induction n with
    | zero =>
      intro i hi
      have hi : i = e := hi
      subst hi
      rw [z161_5]
      simp only [z161_0, z161_1, z161_2, z161_3, z161_7, z161_8, z161_11, z161_12, z161_13, z161_14, z161_15, z161_18, z161_21, z161_22, pv_catN, pv_cat1, pv_cat2, pv_cat3, pv_catL, Option.toList, List.nil_append, List.cons_append, List.append_nil, pv_rfS, pn_i, pn_r, pn_n, pn_o, true_and, and_true, Nat.le_refl, and_self, true_implies, false_implies, not_true_eq_false, not_false_eq_true, pv_b0, pv_b01, pv_bn0, pv_b1, Bool.false_eq_true, Bool.true_eq_false, Bool.not_false, Bool.not_true, pv_bT, pv_bF, eq_self, nI_le' he he]
      exact hP
    | succ n ih =>
      intro i hi
      rw [z161_5]
      simp only [z161_0, z161_1, z161_2, z161_3, z161_7, z161_8, z161_11, z161_12, z161_13, z161_14, z161_15, z161_18, z161_21, z161_22, pv_catN, pv_cat1, pv_cat2, pv_cat3, pv_catL, Option.toList, List.nil_append, List.cons_append, List.append_nil, pv_rfS, pn_i, pn_r, pn_n, pn_o, true_and, and_true, Nat.le_refl, and_self, true_implies, false_implies, not_true_eq_false, not_false_eq_true, pv_b0, pv_b01, pv_bn0, pv_b1, Bool.false_eq_true, Bool.true_eq_false, Bool.not_false, Bool.not_true, pv_bT, pv_bF, eq_self, nI_le' he (show i < 2 ^ 31 by omega), show (e ≤ i) = False from eq_false (by omega), lN_mul, nI_1]
      have := ih (i + 1) (by omega)
      rw [Nat.pow_succ] at this
      exact this
  simp only [e161, z161_0, z161_1, z161_2, z161_3, pv_catN, pv_cat1, pv_cat2, pv_cat3, pv_catL, Option.toList, List.nil_append, List.cons_append, List.append_nil, pv_rfS, pn_i, pn_r, pn_n, pn_o, true_and, and_true, Nat.le_refl, and_self, true_implies, false_implies, not_true_eq_false, not_false_eq_true, pv_b0, pv_b01, pv_bn0, pv_b1, Bool.false_eq_true, Bool.true_eq_false, Bool.not_false, Bool.not_true, pv_bT, pv_bF, eq_self, lN1']
  exact loop e 0 (Nat.zero_add _)
theorem spare_lt : ∀ p, p < 5 → ∀ w, w < 6 → ∀ d, d < 10 → ∀ k, k < 11 → (nI p - nI w - nI d < nI k ↔ p < w + d + k) := by decide +kernel
theorem c10s {y : Nat} (h : y ≤ 10) : (10 : Int32) - nI y = nI (10 - y) := pk_sub (a := 10) h
theorem m94 {d : Nat} {P : PvP} {g : PvG} {h : PvH} {p w e y : Nat} (hp : p < 5) (hw : w < 6) (he : e < 10) (hy : y < 11) (hP : P (some (.long (lN (dWy w p e y (e + 1))))) g h) : pv_run (d + 2) 94 [.int (nI p - nI w - nI e), .int (nI e), .int (nI y)] g h P := by
  have loop : ∀ n k, k + n = e + 1 → (∀ j, j < k → w + e + j ≤ p) → pv_E (d + 1) 94 P 8 [some (.int (nI p - nI w - nI e)), some (.int (nI e)), some (.int (nI y)), some (.long (lN (dWy w p e y k))), none, some (.long (lN (dOrd e k))), none, some (.int (nI k))] [] 0 0 g h := by
    intro n
    induction n with
    | zero =>
      intro k hk hj
      have hk : k = e + 1 := hk
      subst hk
      rw [z94_8]
      simp only [z94_10, z94_11, z94_14, z94_16, z94_17, z94_66, z94_67, pv_catN, pv_cat1, pv_cat2, pv_cat3, pv_catL, Option.toList, List.nil_append, List.cons_append, List.append_nil, pv_rfS, pn_i, pn_r, pn_n, pn_o, true_and, and_true, Nat.le_refl, and_self, true_implies, false_implies, not_true_eq_false, not_false_eq_true, pv_b0, pv_b01, pv_bn0, pv_b1, Bool.false_eq_true, Bool.true_eq_false, Bool.not_false, Bool.not_true, pv_bT, pv_bF, eq_self, nI_lt' (show e < 2 ^ 31 by omega) (show e + 1 < 2 ^ 31 by omega), show (e < e + 1) = True from eq_true (by omega)]
      exact ⟨fun _ => hP, fun _ => hP⟩
    | succ n ih =>
      intro k hk hj
      have hc : (nI p - nI w - nI e < nI k) = (p < w + e + k) := propext (spare_lt p hp w hw e he k (by omega))
      rw [z94_8]
      simp only [z94_10, z94_11, z94_14, z94_16, z94_17, z94_20, z94_21, z94_23, z94_24, z94_66, z94_67, pv_catN, pv_cat1, pv_cat2, pv_cat3, pv_catL, Option.toList, List.nil_append, List.cons_append, List.append_nil, pv_rfS, pn_i, pn_r, pn_n, pn_o, true_and, and_true, Nat.le_refl, and_self, true_implies, false_implies, not_true_eq_false, not_false_eq_true, pv_b0, pv_b01, pv_bn0, pv_b1, Bool.false_eq_true, Bool.true_eq_false, Bool.not_false, Bool.not_true, pv_bT, pv_bF, eq_self, hc, nI_lt' (show e < 2 ^ 31 by omega) (show k < 2 ^ 31 by omega), show (e < k) = False from eq_false (by omega)]
      refine ⟨fun c => ?_, fun c => ?_⟩
      · have : dWy w p e y (e + 1) = dWy w p e y k := sm_stop (by omega) (fun j h1 h2 => if_neg (by omega))
        rw [this] at hP
        exact hP
      · rw [z94_26 (by simp [pv_cat, Value.category]) (by decide)]
        refine m95 (by omega) (by omega) ?_
        have ek : nI e - nI k = nI (e - k) := pk_sub (by omega)
        simp only [z94_29, z94_30, z94_32, z94_33, z94_34, z94_35, z94_37, pv_catN, pv_cat1, pv_cat2, pv_cat3, pv_catL, Option.toList, List.nil_append, List.cons_append, List.append_nil, pv_rfS, pn_i, pn_r, pn_n, pn_o, true_and, and_true, Nat.le_refl, and_self, true_implies, false_implies, not_true_eq_false, not_false_eq_true, pv_b0, pv_b01, pv_bn0, pv_b1, Bool.false_eq_true, Bool.true_eq_false, Bool.not_false, Bool.not_true, pv_bT, pv_bF, eq_self, c10s (show y ≤ 10 by omega), ek, lN_mul]
        rw [z94_38 (by simp [pv_cat, Value.category]) (by decide)]
        refine m95 (by omega) (by omega) ?_
        have hle := dOrd_le e he k (by omega)
        have hk1 : lN (k + 1) ≠ 0 := by
          rw [l0]
          intro q
          exact absurd ((pk_lEQ (show k + 1 < 2 ^ 63 by omega) (by decide)).mp q) (by omega)
        simp only [z94_0, z94_1, z94_2, z94_3, z94_5, z94_6, z94_10, z94_11, z94_14, z94_16, z94_17, z94_20, z94_21, z94_23, z94_24, z94_26, z94_29, z94_30, z94_32, z94_33, z94_34, z94_35, z94_37, z94_38, z94_41, z94_42, z94_43, z94_44, z94_46, z94_47, z94_49, z94_50, z94_51, z94_52, z94_54, z94_55, z94_56, z94_57, z94_58, z94_60, z94_63, z94_66, z94_67, pv_catN, pv_cat1, pv_cat2, pv_cat3, pv_catL, Option.toList, List.nil_append, List.cons_append, List.append_nil, pv_rfS, pn_i, pn_r, pn_n, pn_o, true_and, and_true, Nat.le_refl, and_self, true_implies, false_implies, not_true_eq_false, not_false_eq_true, pv_b0, pv_b01, pv_bn0, pv_b1, Bool.false_eq_true, Bool.true_eq_false, Bool.not_false, Bool.not_true, pv_bT, pv_bF, eq_self, lN_mul, lN_add, ek, nI_1, l31 (show e - k < 2 ^ 31 by omega), l31 (show k + 1 < 2 ^ 31 by omega), pk_lDiv (show dOrd e k * (e - k) < 2 ^ 63 by omega) (show 0 < k + 1 by omega) (show k + 1 < 2 ^ 63 by omega)]
        refine ⟨hk1, ?_⟩
        have := ih (k + 1) (by omega) (fun j hj2 => by rcases Nat.lt_succ_iff_lt_or_eq.mp hj2 with z | z; exact hj j z; subst z; omega)
        have e1 : dWy w p e y (k + 1) = dWy w p e y k + dOrd e k * y ^ k * (10 - y) ^ (e - k) := by
          show dWy w p e y k + (if w + e + k ≤ p then dTm e y k else 0) = _
          rw [if_pos (by omega)]
          rfl
        rw [e1] at this
        exact this
  simp only [e94, z94_0, z94_1, z94_2, z94_3, z94_5, z94_6, pv_catN, pv_cat1, pv_cat2, pv_cat3, pv_catL, Option.toList, List.nil_append, List.cons_append, List.append_nil, pv_rfS, pn_i, pn_r, pn_n, pn_o, true_and, and_true, Nat.le_refl, and_self, true_implies, false_implies, not_true_eq_false, not_false_eq_true, pv_b0, pv_b01, pv_bn0, pv_b1, Bool.false_eq_true, Bool.true_eq_false, Bool.not_false, Bool.not_true, pv_bT, pv_bF, eq_self]
  exact loop (e + 1) 0 (Nat.zero_add _) (fun j hj => absurd hj (Nat.not_lt_zero j))
def in19 (a : Int32) : Bool := decide (1 ≤ a.toInt ∧ a.toInt ≤ 9)
theorem in19_t {a : Int32} (h : in19 a = true) : ∃ n, 1 ≤ n ∧ n ≤ 9 ∧ a = nI n := by
  have := of_decide_eq_true h
  have e : inr a 10 = true := decide_eq_true (by omega)
  obtain ⟨j, hj, rfl⟩ := inr_t e
  rw [nI_toInt (by omega)] at this
  exact ⟨j, by omega, by omega, rfl⟩
theorem in19l {a : Int32} : decide ((1 : Int64) ≤ a.toInt64 ∧ a.toInt64 ≤ 9) = in19 a := by
  unfold in19
  apply decide_eq_decide.mpr
  rw [Int64.le_iff_toInt_le, Int64.le_iff_toInt_le, l64]
  exact Iff.rfl
theorem in10l {a : Int32} : decide ((0 : Int64) ≤ a.toInt64 ∧ a.toInt64 ≤ 10) = inr a 11 := by
  unfold inr
  apply decide_eq_decide.mpr
  rw [Int64.le_iff_toInt_le, Int64.le_iff_toInt_le, l64]
  show (0 ≤ a.toInt ∧ a.toInt ≤ 10) ↔ _
  omega
def dryN (x : SX) (r e y : Nat) (u : Bool) : Nat := frac (dWy (sH (xS x)) (sP (xS x) r) e y (e + 1)) (10 ^ e) u
def dryA (x : SX) (a b c : Int32) (u : Bool) : Int64 := if inr a (tR (xT x)) then (if in19 b && inr c 11 then (if th (xS x) a.toNatClampNeg then lN (dryN x a.toNatClampNeg b.toNatClampNeg c.toNatClampNeg u) else -3) else -2) else -1
theorem pow10 : ∀ e, e < 10 → 10 ^ e ≤ 10 ^ 9 := by decide
theorem oC82 {x : SX} (O : okX x) (a b c : Int32) (u : Bool) : OpC 3 82 [.int a, .int b, .int c, .int (pv_b u)] x (.long (dryA x a b c u)) x := by
  intro d P g h ⟨rt, tt, q, G, C⟩ hP
  have hP := hP g h ⟨rt, tt, q, G, C⟩ FG.rf FC.rf
  have hR := O.R
  have hF := O.F
  have hH := O.S.2.2.1
  unfold dryA at hP
  cases hI : inr a (tR (xT x)) with
  | false =>
    rw [hI] at hP
    simp only [e82, z82_0, z82_1, z82_2, z82_5, z82_8, z82_11, pv_catN, pv_cat1, pv_cat2, pv_cat3, pv_catL, Option.toList, List.nil_append, List.cons_append, List.append_nil, pv_rfS, pn_i, pn_r, pn_n, pn_o, true_and, and_true, Nat.le_refl, and_self, true_implies, false_implies, not_true_eq_false, not_false_eq_true, pv_b0, pv_b01, pv_bn0, pv_b1, Bool.false_eq_true, Bool.true_eq_false, Bool.not_false, Bool.not_true, pv_bT, pv_bF, eq_self, G.o0, m86 G C O, hI]
    exact hP
  | true =>
    obtain ⟨r, hr, rfl⟩ := inr_t hI
    have hp := (O.S.1 r hr).1
    rw [hI, nI_clamp (by omega)] at hP
    cases hJ : (in19 b && inr c 11) with
    | false =>
      rw [hJ] at hP
      have hP : P (some (.long (-2))) g h := hP
      simp only [e82, z82_0, z82_1, z82_2, z82_5, z82_12, z82_13, z82_14, z82_17, z82_18, z82_20, z82_23, z82_24, z82_27, z82_28, z82_30, z82_33, z82_36, pv_catN, pv_cat1, pv_cat2, pv_cat3, pv_catL, Option.toList, List.nil_append, List.cons_append, List.append_nil, pv_rfS, pn_i, pn_r, pn_n, pn_o, true_and, and_true, Nat.le_refl, and_self, true_implies, false_implies, not_true_eq_false, not_false_eq_true, pv_b0, pv_b01, pv_bn0, pv_b1, Bool.false_eq_true, Bool.true_eq_false, Bool.not_false, Bool.not_true, pv_bT, pv_bF, eq_self, G.o0, m86 G C O, hI]
      refine ⟨fun _ => hP, fun c1 => ⟨fun _ => hP, fun c2 => ⟨fun _ => hP, fun c3 => ⟨fun c4 => ?_, fun _ => hP⟩⟩⟩⟩
      exfalso
      rw [Int32.lt_iff_toInt_lt] at c1 c2
      rw [lt0] at c3
      rw [Int32.le_iff_toInt_le] at c4
      have c1 : ¬ b.toInt < 1 := c1
      have c2 : ¬ 9 < b.toInt := c2
      have c4 : c.toInt ≤ 10 := c4
      rcases Bool.and_eq_false_iff.mp hJ with z | z
      · have := of_decide_eq_false z
        omega
      · have := of_decide_eq_false z
        omega
    | true =>
      obtain ⟨hA, hB⟩ := Bool.and_eq_true_iff.mp hJ
      obtain ⟨e, he1, he9, rfl⟩ := in19_t hA
      obtain ⟨y, hy, rfl⟩ := inr_t hB
      rw [hJ, nI_clamp (show e < 2 ^ 31 by omega), nI_clamp (show y < 2 ^ 31 by omega)] at hP
      have hP : P (some (.long (if th (xS x) r = true then lN (dryN x r e y u) else -3))) g h := hP
      have q1 : (nI e < 1) = False := eq_false (by rw [show (1 : Int32) = nI 1 from rfl, nI_lt' (by omega) (by decide)]; omega)
      have q9 : ((9 : Int32) < nI e) = False := eq_false (by rw [show (9 : Int32) = nI 9 from rfl, nI_lt' (by decide) (by omega)]; omega)
      have q10 : (nI y ≤ 10) = True := eq_true (by rw [show (10 : Int32) = nI 10 from rfl, nI_le' (by omega) (by decide)]; omega)
      simp only [e82, z82_0, z82_1, z82_2, z82_5, z82_8, z82_11, z82_12, z82_13, z82_14, z82_17, z82_18, z82_20, z82_23, z82_24, z82_27, z82_28, z82_30, z82_33, z82_36, z82_37, z82_38, z82_41, z82_42, z82_45, z82_48, z82_51, z82_52, z82_53, z82_56, z82_59, z82_60, z82_61, z82_62, z82_65, z82_68, z82_69, z82_70, z82_71, z82_73, z82_75, z82_76, z82_80, z82_82, z82_86, z82_91, pv_catN, pv_cat1, pv_cat2, pv_cat3, pv_catL, Option.toList, List.nil_append, List.cons_append, List.append_nil, pv_rfS, pn_i, pn_r, pn_n, pn_o, true_and, and_true, Nat.le_refl, and_self, true_implies, false_implies, not_true_eq_false, not_false_eq_true, pv_b0, pv_b01, pv_bn0, pv_b1, Bool.false_eq_true, Bool.true_eq_false, Bool.not_false, Bool.not_true, pv_bT, pv_bF, eq_self, G.o0, G.r0_4, G.S20.1, G.S20.2.1, G.S20.2.2.2.2.1, m86 G C O, hI, q1, q9, q10, lt0, nI_toInt (show y < 2 ^ 31 by omega), show ((y : Int) < 0) = False from eq_false (by omega), m42 G.S20 C.S O.D (show r < 32 by omega), vp_nI (show r < 8 by omega) (show 8 < 2 ^ 31 by decide), nI_clamp (show r < 2 ^ 31 by omega), C.S.1 r hr, C.S.2.2.2.2.1]
      refine ⟨fun ct => ?_, fun ct => ?_⟩
      · have ct : th (xS x) r = true := by simpa using ct
        rw [if_pos ct] at hP
        rw [z82_77 (by simp [pv_cat, Value.category]) (by decide)]
        refine m94 (by omega) (by omega) (by omega) hy ?_
        simp only [z82_80, z82_82, pv_catN, pv_cat1, pv_cat2, pv_cat3, pv_catL, Option.toList, List.nil_append, List.cons_append, List.append_nil, pv_rfS, pn_i, pn_r, pn_n, pn_o, true_and, and_true, Nat.le_refl, and_self, true_implies, false_implies, not_true_eq_false, not_false_eq_true, pv_b0, pv_b01, pv_bn0, pv_b1, Bool.false_eq_true, Bool.true_eq_false, Bool.not_false, Bool.not_true, pv_bT, pv_bF, eq_self]
        rw [z82_83 (by simp [pv_cat, Value.category]) (by decide)]
        refine m95 (b := 10) (by omega) (by omega) ?_
        simp only [z82_86, pv_catN, pv_cat1, pv_cat2, pv_cat3, pv_catL, Option.toList, List.nil_append, List.cons_append, List.append_nil, pv_rfS, pn_i, pn_r, pn_n, pn_o, true_and, and_true, Nat.le_refl, and_self, true_implies, false_implies, not_true_eq_false, not_false_eq_true, pv_b0, pv_b01, pv_bn0, pv_b1, Bool.false_eq_true, Bool.true_eq_false, Bool.not_false, Bool.not_true, pv_bT, pv_bF, eq_self]
        rw [z82_88 (by simp [pv_cat, Value.category]) (by decide)]
        have h1 := dWy_le (w := sH (xS x)) (p := sP (xS x) r) (d := e) (y := y) (n := e + 1) (by omega) hy (by omega)
        have h2 := pow10 e (by omega)
        refine m96 (by omega) (by omega) ?_
        simp only [z82_91, pv_catN, pv_cat1, pv_cat2, pv_cat3, pv_catL, Option.toList, List.nil_append, List.cons_append, List.append_nil, pv_rfS, pn_i, pn_r, pn_n, pn_o, true_and, and_true, Nat.le_refl, and_self, true_implies, false_implies, not_true_eq_false, not_false_eq_true, pv_b0, pv_b01, pv_bn0, pv_b1, Bool.false_eq_true, Bool.true_eq_false, Bool.not_false, Bool.not_true, pv_bT, pv_bF, eq_self]
        exact hP
      · have ct : th (xS x) r = false := by simpa using ct
        rw [ct] at hP
        exact hP
theorem oM162 {x : SX} (O : okX x) (a b c : Int32) (u : Bool) : OpM 3 162 [.int a, .int b, .int c, .int (pv_b u)] x (.long (dryA x a b c u)) x := by
  intro d P g h ⟨G, M0⟩ hP
  have M := M0.t0
  have hP := hP _ ⟨G, M⟩ (FM.rf.st (by omega))
  generalize hh : pv_st h 102 0 0 = h0 at M hP
  have hR := O.R
  have hF := O.F
  have hH := O.S.2.2.1
  unfold dryA at hP
  cases hI : inr a (tR (xT x)) with
  | false =>
    rw [hI] at hP
    simp only [e162, z162_0, z162_1, z162_2, z162_5, z162_6, z162_7, z162_10, z162_13, z162_16, z162_17, z162_18, z162_19, z162_20, z162_23, z162_26, z162_29, z162_30, z162_31, z162_32, z162_35, z162_38, z162_41, z162_44, z162_45, z162_46, z162_49, z162_50, z162_51, z162_54, z162_57, z162_58, z162_59, z162_61, z162_62, z162_64, z162_65, z162_69, z162_70, z162_73, z162_75, z162_76, z162_79, z162_80, z162_81, z162_83, z162_84, z162_85, z162_88, z162_89, z162_90, z162_93, z162_95, z162_96, z162_97, z162_102, z162_103, z162_106, z162_107, z162_108, z162_109, z162_110, z162_112, z162_116, z162_117, z162_120, z162_121, z162_122, z162_124, z162_126, z162_127, z162_129, z162_130, z162_131, z162_132, z162_134, z162_135, z162_136, z162_137, z162_138, z162_140, z162_143, z162_146, z162_149, z162_153, z162_155, z162_157, z162_162, z162_164, z162_166, z162_169, z162_171, z162_173, z162_174, z162_177, z162_179, z162_181, z162_182, pv_catN, pv_cat1, pv_cat2, pv_cat3, pv_catL, Option.toList, List.nil_append, List.cons_append, List.append_nil, pv_rfS, pn_i, pn_r, pn_n, pn_o, true_and, and_true, Nat.le_refl, and_self, true_implies, false_implies, not_true_eq_false, not_false_eq_true, pv_b0, pv_b01, pv_bn0, pv_b1, Bool.false_eq_true, Bool.true_eq_false, Bool.not_false, Bool.not_true, pv_bT, pv_bF, eq_self, G.o, hh, m102 G M O, hI]
    exact hP
  | true =>
    obtain ⟨r, hr, rfl⟩ := inr_t hI
    have hp := (O.S.1 r hr).1
    rw [hI, nI_clamp (by omega)] at hP
    cases hA : in19 b with
    | false =>
      rw [hA] at hP
      simp only [e162, z162_0, z162_1, z162_2, z162_5, z162_6, z162_7, z162_10, z162_13, z162_16, z162_17, z162_18, z162_19, z162_20, z162_23, z162_26, z162_29, z162_30, z162_31, z162_32, z162_35, z162_38, z162_41, z162_44, z162_45, z162_46, z162_49, z162_50, z162_51, z162_54, z162_57, z162_58, z162_59, z162_61, z162_62, z162_64, z162_65, z162_69, z162_70, z162_73, z162_75, z162_76, z162_79, z162_80, z162_81, z162_83, z162_84, z162_85, z162_88, z162_89, z162_90, z162_93, z162_95, z162_96, z162_97, z162_102, z162_103, z162_106, z162_107, z162_108, z162_109, z162_110, z162_112, z162_116, z162_117, z162_120, z162_121, z162_122, z162_124, z162_126, z162_127, z162_129, z162_130, z162_131, z162_132, z162_134, z162_135, z162_136, z162_137, z162_138, z162_140, z162_143, z162_146, z162_149, z162_153, z162_155, z162_157, z162_162, z162_164, z162_166, z162_169, z162_171, z162_173, z162_174, z162_177, z162_179, z162_181, z162_182, pv_catN, pv_cat1, pv_cat2, pv_cat3, pv_catL, Option.toList, List.nil_append, List.cons_append, List.append_nil, pv_rfS, pn_i, pn_r, pn_n, pn_o, true_and, and_true, Nat.le_refl, and_self, true_implies, false_implies, not_true_eq_false, not_false_eq_true, pv_b0, pv_b01, pv_bn0, pv_b1, Bool.false_eq_true, Bool.true_eq_false, Bool.not_false, Bool.not_true, pv_bT, pv_bF, eq_self, G.o, hh, m102 G M O, hI, m100, in19l, hA]
      exact hP
    | true =>
      cases hB : inr c 11 with
      | false =>
        rw [hA, hB] at hP
        simp only [e162, z162_0, z162_1, z162_2, z162_5, z162_6, z162_7, z162_10, z162_13, z162_16, z162_17, z162_18, z162_19, z162_20, z162_23, z162_26, z162_29, z162_30, z162_31, z162_32, z162_35, z162_38, z162_41, z162_44, z162_45, z162_46, z162_49, z162_50, z162_51, z162_54, z162_57, z162_58, z162_59, z162_61, z162_62, z162_64, z162_65, z162_69, z162_70, z162_73, z162_75, z162_76, z162_79, z162_80, z162_81, z162_83, z162_84, z162_85, z162_88, z162_89, z162_90, z162_93, z162_95, z162_96, z162_97, z162_102, z162_103, z162_106, z162_107, z162_108, z162_109, z162_110, z162_112, z162_116, z162_117, z162_120, z162_121, z162_122, z162_124, z162_126, z162_127, z162_129, z162_130, z162_131, z162_132, z162_134, z162_135, z162_136, z162_137, z162_138, z162_140, z162_143, z162_146, z162_149, z162_153, z162_155, z162_157, z162_162, z162_164, z162_166, z162_169, z162_171, z162_173, z162_174, z162_177, z162_179, z162_181, z162_182, pv_catN, pv_cat1, pv_cat2, pv_cat3, pv_catL, Option.toList, List.nil_append, List.cons_append, List.append_nil, pv_rfS, pn_i, pn_r, pn_n, pn_o, true_and, and_true, Nat.le_refl, and_self, true_implies, false_implies, not_true_eq_false, not_false_eq_true, pv_b0, pv_b01, pv_bn0, pv_b1, Bool.false_eq_true, Bool.true_eq_false, Bool.not_false, Bool.not_true, pv_bT, pv_bF, eq_self, G.o, hh, m102 G M O, hI, m100, in19l, in10l, hA, hB]
        exact hP
      | true =>
        obtain ⟨e, he1, he9, rfl⟩ := in19_t hA
        obtain ⟨y, hy, rfl⟩ := inr_t hB
        rw [hA, hB, nI_clamp (show e < 2 ^ 31 by omega), nI_clamp (show y < 2 ^ 31 by omega)] at hP
        have hP : P (some (.long (if th (xS x) r = true then lN (dryN x r e y u) else -3))) g h0 := hP
        simp only [e162, z162_0, z162_1, z162_2, z162_5, z162_6, z162_7, z162_10, z162_13, z162_16, z162_17, z162_18, z162_19, z162_20, z162_23, z162_26, z162_29, z162_30, z162_31, z162_32, z162_35, z162_38, z162_41, z162_44, z162_45, z162_46, z162_49, z162_50, z162_51, z162_54, z162_57, z162_58, z162_59, z162_61, z162_62, z162_64, z162_65, z162_69, z162_70, z162_73, z162_75, z162_76, z162_79, z162_80, z162_81, z162_83, z162_84, z162_85, z162_88, z162_89, z162_90, z162_93, z162_95, z162_96, z162_97, z162_102, z162_103, z162_106, z162_107, z162_108, z162_109, z162_110, z162_112, z162_116, z162_117, z162_120, z162_121, z162_122, z162_124, z162_126, z162_127, z162_129, z162_130, z162_131, z162_132, z162_134, z162_135, z162_136, z162_137, z162_138, z162_140, z162_143, z162_146, z162_149, z162_153, z162_155, z162_157, z162_162, z162_164, z162_166, z162_169, z162_171, z162_173, z162_174, z162_177, z162_179, z162_181, z162_182, pv_catN, pv_cat1, pv_cat2, pv_cat3, pv_catL, Option.toList, List.nil_append, List.cons_append, List.append_nil, pv_rfS, pn_i, pn_r, pn_n, pn_o, true_and, and_true, Nat.le_refl, and_self, true_implies, false_implies, not_true_eq_false, not_false_eq_true, pv_b0, pv_b01, pv_bn0, pv_b1, Bool.false_eq_true, Bool.true_eq_false, Bool.not_false, Bool.not_true, pv_bT, pv_bF, eq_self, G.o, hh, m102 G M O, hI, m100, in19l, in10l, hA, hB, G.r12, G.t110, vp_nI (show r < 8 by omega) (show 8 < 2 ^ 31 by decide), nI_clamp (show r < 2 ^ 31 by omega), M.M.D r hr]
        refine br (fun c => ?_) (fun c => ?_)
        · have ct : th (xS x) r = true := by unfold th; rw [c]; rfl
          rw [if_pos ct] at hP
          have loop : ∀ n k, k + n = e + 1 → ∀ w10 w11 w12 : Option Value, pv_E (d + 2) 162 P 67 [some (.ref 102), some (.int (nI r)), some (.int (nI e)), some (.int (nI y)), some (.int (pv_b u)), some (.long (lN (dWy (sH (xS x)) (sP (xS x) r) e y k))), none, some (.long (lN (dOrd e k))), none, some (.int (nI k)), w10, w11, w12] [] 0 0 g h0 := by
            intro n
            induction n with
            | zero =>
              intro k hk w10 w11 w12
              have hk : k = e + 1 := hk
              subst hk
              rw [z162_67]
              simp only [z162_69, z162_70, z162_146, z162_149, pv_catN, pv_cat1, pv_cat2, pv_cat3, pv_catL, Option.toList, List.nil_append, List.cons_append, List.append_nil, pv_rfS, pn_i, pn_r, pn_n, pn_o, true_and, and_true, Nat.le_refl, and_self, true_implies, false_implies, not_true_eq_false, not_false_eq_true, pv_b0, pv_b01, pv_bn0, pv_b1, Bool.false_eq_true, Bool.true_eq_false, Bool.not_false, Bool.not_true, pv_bT, pv_bF, eq_self, nI_lt' (show e < 2 ^ 31 by omega) (show e + 1 < 2 ^ 31 by omega), show (e < e + 1) = True from eq_true (by omega)]
              rw [z162_150 (by simp [pv_cat, Value.category]) (by decide)]
              refine m161 (b := 10) (by omega) ?_
              simp only [z162_153, z162_155, z162_157, pv_catN, pv_cat1, pv_cat2, pv_cat3, pv_catL, Option.toList, List.nil_append, List.cons_append, List.append_nil, pv_rfS, pn_i, pn_r, pn_n, pn_o, true_and, and_true, Nat.le_refl, and_self, true_implies, false_implies, not_true_eq_false, not_false_eq_true, pv_b0, pv_b01, pv_bn0, pv_b1, Bool.false_eq_true, Bool.true_eq_false, Bool.not_false, Bool.not_true, pv_bT, pv_bF, eq_self]
              have h1 := dWy_le (w := sH (xS x)) (p := sP (xS x) r) (d := e) (y := y) (n := e + 1) (by omega) hy (by omega)
              have h2 := pow10 e (by omega)
              have h3 : 0 < 10 ^ e := Nat.pow_pos (by decide)
              rw [z162_159 (by simp [pv_cat, Value.category]) (by decide)]
              refine m156 (by omega) (by omega) ?_
              unfold dryN frac at hP
              generalize dWy (sH (xS x)) (sP (xS x) r) e y (e + 1) = N at *
              generalize 10 ^ e = T at *
              have hg : Nat.gcd N T ≤ T := Nat.gcd_le_right N (by omega)
              have hg0 : Nat.gcd N T ≠ 0 := fun q => (by have := Nat.eq_zero_of_gcd_eq_zero_right q; omega)
              have hgl : lN (Nat.gcd N T) ≠ 0 := by
                rw [l0]
                intro q
                exact hg0 ((pk_lEQ (show Nat.gcd N T < 2 ^ 63 by omega) (by decide)).mp q)
              simp only [z162_162, z162_164, z162_166, z162_169, z162_171, z162_173, z162_174, z162_177, z162_179, z162_181, z162_182, pv_catN, pv_cat1, pv_cat2, pv_cat3, pv_catL, Option.toList, List.nil_append, List.cons_append, List.append_nil, pv_rfS, pn_i, pn_r, pn_n, pn_o, true_and, and_true, Nat.le_refl, and_self, true_implies, false_implies, not_true_eq_false, not_false_eq_true, pv_b0, pv_b01, pv_bn0, pv_b1, Bool.false_eq_true, Bool.true_eq_false, Bool.not_false, Bool.not_true, pv_bT, pv_bF, eq_self, pk_lDiv (show N < 2 ^ 63 by omega) (show 0 < Nat.gcd N T by omega) (show Nat.gcd N T < 2 ^ 63 by omega), pk_lDiv (show T < 2 ^ 63 by omega) (show 0 < Nat.gcd N T by omega) (show Nat.gcd N T < 2 ^ 63 by omega)]
              refine br (fun c => ⟨hgl, ?_⟩) (fun c => ⟨hgl, ?_⟩)
              · subst c
                by_cases z : N = 0
                · rw [if_pos (Or.inl z)] at hP
                  subst z
                  rw [Nat.gcd_zero_left, Nat.div_self (by omega)]
                  exact hP
                · rw [if_neg (by omega)] at hP
                  exact hP
              · subst c
                by_cases z : N = 0
                · rw [if_pos (Or.inl z)] at hP
                  subst z
                  rw [Nat.zero_div]
                  exact hP
                · rw [if_neg (by omega)] at hP
                  exact hP
            | succ n ih =>
              intro k hk w10 w11 w12
              have ih := ih (k + 1) (by omega) w10 w11 w12
              have ek : nI e - nI k = nI (e - k) := pk_sub (by omega)
              have e1 : dWy (sH (xS x)) (sP (xS x) r) e y (k + 1) = dWy (sH (xS x)) (sP (xS x) r) e y k + (if sH (xS x) + e + k ≤ sP (xS x) r then dTm e y k else 0) := rfl
              rw [e1] at ih
              have hle := dOrd_le e (by omega) k (by omega)
              have hk1 : lN (k + 1) ≠ 0 := by
                rw [l0]
                intro q
                exact absurd ((pk_lEQ (show k + 1 < 2 ^ 63 by omega) (by decide)).mp q) (by omega)
              have e10 : (10 : Int64) - lN y = lN (10 - y) := lN_sub (a := 10) (by omega)
              rw [z162_67]
              simp only [z162_69, z162_70, z162_73, z162_75, z162_76, z162_79, z162_80, z162_81, z162_83, z162_84, z162_85, z162_88, z162_89, z162_90, z162_93, z162_95, z162_96, z162_97, z162_120, z162_121, z162_122, z162_124, z162_126, z162_127, z162_129, z162_130, z162_131, z162_132, z162_134, z162_135, z162_136, z162_137, z162_138, z162_140, z162_143, pv_catN, pv_cat1, pv_cat2, pv_cat3, pv_catL, Option.toList, List.nil_append, List.cons_append, List.append_nil, pv_rfS, pn_i, pn_r, pn_n, pn_o, true_and, and_true, Nat.le_refl, and_self, true_implies, false_implies, not_true_eq_false, not_false_eq_true, pv_b0, pv_b01, pv_bn0, pv_b1, Bool.false_eq_true, Bool.true_eq_false, Bool.not_false, Bool.not_true, pv_bT, pv_bF, eq_self, nI_lt' (show e < 2 ^ 31 by omega) (show k < 2 ^ 31 by omega), show (e < k) = False from eq_false (by omega), G.o, G.r11, G.t109, vp_nI (show r < 8 by omega) (show 8 < 2 ^ 31 by decide), nI_clamp (show r < 2 ^ 31 by omega), M.M.H, M.M.P r hr, nI_add, nI_lt' (show sP (xS x) r < 2 ^ 31 by omega) (show sH (xS x) + e + k < 2 ^ 31 by omega), ek, nI_1, l31 (show e - k < 2 ^ 31 by omega), l31 (show k + 1 < 2 ^ 31 by omega), l31 (show y < 2 ^ 31 by omega), lN_mul, pk_lDiv (show dOrd e k * (e - k) < 2 ^ 63 by omega) (show 0 < k + 1 by omega) (show k + 1 < 2 ^ 63 by omega)]
              refine ⟨fun c => ⟨hk1, ?_⟩, fun c => ?_⟩
              · rw [if_neg (by omega)] at ih
                rw [Int64.add_zero]
                exact ih
              · rw [if_pos (by omega)] at ih
                rw [z162_99 (by simp [pv_cat, Value.category]) (by decide)]
                refine m161 (by omega) ?_
                simp only [z162_102, z162_103, z162_106, z162_107, z162_108, z162_109, z162_110, z162_112, pv_catN, pv_cat1, pv_cat2, pv_cat3, pv_catL, Option.toList, List.nil_append, List.cons_append, List.append_nil, pv_rfS, pn_i, pn_r, pn_n, pn_o, true_and, and_true, Nat.le_refl, and_self, true_implies, false_implies, not_true_eq_false, not_false_eq_true, pv_b0, pv_b01, pv_bn0, pv_b1, Bool.false_eq_true, Bool.true_eq_false, Bool.not_false, Bool.not_true, pv_bT, pv_bF, eq_self, lN_mul, l31 (show y < 2 ^ 31 by omega), e10, ek]
                rw [z162_113 (by simp [pv_cat, Value.category]) (by decide)]
                refine m161 (by omega) ?_
                simp only [z162_116, z162_117, z162_121, z162_122, z162_124, z162_126, z162_127, z162_129, z162_130, z162_131, z162_132, z162_134, z162_135, z162_136, z162_137, z162_138, z162_140, z162_143, pv_catN, pv_cat1, pv_cat2, pv_cat3, pv_catL, Option.toList, List.nil_append, List.cons_append, List.append_nil, pv_rfS, pn_i, pn_r, pn_n, pn_o, true_and, and_true, Nat.le_refl, and_self, true_implies, false_implies, not_true_eq_false, not_false_eq_true, pv_b0, pv_b01, pv_bn0, pv_b1, Bool.false_eq_true, Bool.true_eq_false, Bool.not_false, Bool.not_true, pv_bT, pv_bF, eq_self, lN_mul, lN_add, ek, nI_1, l31 (show e - k < 2 ^ 31 by omega), l31 (show k + 1 < 2 ^ 31 by omega), pk_lDiv (show dOrd e k * (e - k) < 2 ^ 63 by omega) (show 0 < k + 1 by omega) (show k + 1 < 2 ^ 63 by omega)]
                exact ⟨hk1, ih⟩
          exact loop (e + 1) 0 (Nat.zero_add _) _ _ _
        · have ct : th (xS x) r = false := by unfold th; rw [c]; rfl
          rw [ct] at hP
          exact hP
