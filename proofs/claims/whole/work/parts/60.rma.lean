/-! THE READER of the model: what lies where, its pieces -/
def FRm (h h' : PvH) : Prop := (∀ o, o ≠ 102 → o ≠ 113 → o ≠ 114 → o ≠ 115 → o ≠ 116 → h' o = h o) ∧ ∀ k, k ≠ 3 → k ≠ 18 → k ≠ 21 → h' 102 k = h 102 k
theorem FRm.rf {h : PvH} : FRm h h := ⟨fun _ _ _ _ _ _ => rfl, fun _ _ _ _ => rfl⟩
theorem FRm.tr {a b c : PvH} (h1 : FRm a b) (h2 : FRm b c) : FRm a c := ⟨fun o x1 x2 x3 x4 x5 => (h2.1 o x1 x2 x3 x4 x5).trans (h1.1 o x1 x2 x3 x4 x5), fun k x1 x2 x3 => (h2.2 k x1 x2 x3).trans (h1.2 k x1 x2 x3)⟩
theorem FRm.sk {a b : PvH} (h1 : FRm a b) {k : Nat} {v : Int32} (hk : k = 3 ∨ k = 18 ∨ k = 21) : FRm a (pv_st b 102 k v) := ⟨fun o x1 x2 x3 x4 x5 => (st_o x1).trans (h1.1 o x1 x2 x3 x4 x5), fun j x1 x2 x3 => (st_k (by omega)).trans (h1.2 j x1 x2 x3)⟩
theorem FRm.so {a b : PvH} (h1 : FRm a b) {o k : Nat} {v : Int32} (ho : 113 ≤ o ∧ o ≤ 116) : FRm a (pv_st b o k v) := ⟨fun j x1 x2 x3 x4 x5 => (st_o (by omega)).trans (h1.1 j x1 x2 x3 x4 x5), fun j x1 x2 x3 => by rw [st_o (by omega)]; exact h1.2 j x1 x2 x3⟩
theorem FRm.cD {h h' : PvH} {x : SX} (F : FRm h h') (M : cD h x) : cD h' x := M.fr (fun o a b => F.1 o (by omega) (by omega) (by omega) (by omega) (by omega)) (fun k hk => F.2 k (by omega) (by omega) (by omega))
def mR2 (h : PvH) (s : RS) : Prop := h 102 18 = nI (aF s) ∧ h 102 21 = nI (aR s) ∧ (∀ f, f < aL s → h 114 f = nI (aM s f) ∧ h 113 f = nI (aB s f)) ∧ (∀ r, r < aR s → h 115 (5 * r) = nI (aW s r) ∧ h 115 (5 * r + 1) = nI (aV s r) ∧ h 115 (5 * r + 2) = nI (aA s r) ∧ h 115 (5 * r + 3) = nI (aK s r) ∧ h 115 (5 * r + 4) = nI (aG s r)) ∧ ∀ i j, i < 8 → j < 8 → h 116 (8 * i + j) = pv_b ((aC s i).testBit j)
theorem mR2.fr {h h' : PvH} {s : RS} (C : mR2 h s) (e1 : h' 102 18 = h 102 18) (e2 : h' 102 21 = h 102 21) (t : ∀ a, 113 ≤ a → a ≤ 116 → h' a = h a) : mR2 h' s := by
  unfold mR2 at C ⊢
  rw [e1, e2, t 113 (by omega) (by omega), t 114 (by omega) (by omega), t 115 (by omega) (by omega), t 116 (by omega) (by omega)]
  exact C
theorem mR2.p {h : PvH} {s : RS} (C : mR2 h s) {v : Int32} : mR2 (pv_st h 102 3 v) s := C.fr (st_k (by decide)) (st_k (by decide)) (fun a _ _ => st_o (by omega))
theorem cD.p {h : PvH} {x : SX} (M : cD h x) {v : Int32} : cD (pv_st h 102 3 v) x := (FRm.rf.sk (by omega)).cD M
theorem okX.N76 {x : SX} (O : okX x) : xN x ≤ 76 := O.2.2.2.2.2.2.2.1
theorem okX.X8 {x : SX} (O : okX x) : ∀ i, i < xN x → xX x i < 256 := O.2.2.2.2.2.2.2.2
theorem rg_f {X : Nat → Nat} {N p : Nat} {s : RS} (hp : p ≤ N) (h4 : aS s ≠ 4) (h : p = N ∨ tk s (X p) = none) : (rg X (N - p) p s).1 = some p := by
  rcases Nat.lt_or_ge p N with z | z
  · obtain ⟨m, hm⟩ : ∃ m, N - p = m + 1 := ⟨N - p - 1, by omega⟩
    rw [hm, rg_n (h.resolve_left (by omega))]
  · have : N - p = 0 := by omega
    rw [this]
    unfold rg
    rw [if_neg h4]
theorem rg_t {X : Nat → Nat} {N p : Nat} {s s' : RS} (hp : p < N) (h : tk s (X p) = some s') : rg X (N - p) p s = rg X (N - (p + 1)) (p + 1) s' := by
  obtain ⟨m, hm⟩ : ∃ m, N - p = m + 1 := ⟨N - p - 1, by omega⟩
  rw [hm, rg_s h]
  congr 1
  omega
theorem sub48 : ∀ c, c < 256 → (nI c - 48).toInt = (c : Int) - 48 := by decide +kernel
theorem in48 {c lo hi : Nat} (hc : c < 256) (hl : lo < 1000) (hh : hi < 1000) : decide ((nI lo).toInt64 ≤ (nI c - 48).toInt64 ∧ (nI c - 48).toInt64 ≤ (nI hi).toInt64) = decide (48 + lo ≤ c ∧ c ≤ 48 + hi) := by
  apply decide_eq_decide.mpr
  rw [Int64.le_iff_toInt_le, Int64.le_iff_toInt_le, l64, l64, l64, sub48 c hc, nI_toInt (by omega), nI_toInt (by omega)]
  omega
theorem n9 {f : Nat} (h : f < 2 ^ 30) : (nI f = -9) = False := eq_false (fun z => by
  have : ((nI f) < 0) = False := lt0N h
  rw [z] at this
  exact of_eq_false this (by decide))
theorem m106 {d : Nat} {P : PvP} {g : PvG} {h : PvH} {x : SX} (G : gM g) (M : cD h x) (O : okX x) {p lo hi : Nat} (hp : p ≤ xN x) (e3 : h 102 3 = nI p) (hl : lo ≤ 9) (hh : hi ≤ 9) (h0 : (p = xN x ∨ ¬ (48 + lo ≤ xX x p ∧ xX x p ≤ 48 + hi)) → P (some (.int (-9))) g h) (h1 : ∀ f, p < xN x → xX x p = 48 + f → lo ≤ f → f ≤ hi → P (some (.int (nI f))) g (pv_st h 102 3 (nI (p + 1)))) : pv_run (d + 2) 106 [.ref 102, .int (nI lo), .int (nI hi)] g h P := by
  have hN := O.N76
  simp only [e106, z106_0, z106_1, z106_4, z106_5, z106_8, z106_34, z106_36, pv_catN, pv_cat1, pv_cat2, pv_cat3, pv_catL, Option.toList, List.nil_append, List.cons_append, List.append_nil, pv_rfS, pn_i, pn_r, pn_n, pn_o, true_and, and_true, Nat.le_refl, and_self, true_implies, false_implies, not_true_eq_false, not_false_eq_true, pv_b0, pv_b01, pv_bn0, pv_b1, Bool.false_eq_true, Bool.true_eq_false, Bool.not_false, Bool.not_true, pv_bT, pv_bF, eq_self, true_or, or_true, G.o, e3, M.N, nI_eq' (show p < 2 ^ 31 by omega) (show xN x < 2 ^ 31 by omega)]
  refine ⟨fun c => h0 (Or.inl c), fun c => ?_⟩
  have hpN : p < xN x := by omega
  have hX := O.X8 p hpN
  simp only [z106_11, z106_12, z106_15, z106_16, z106_19, z106_20, z106_22, z106_23, z106_24, z106_25, z106_26, z106_27, z106_28, z106_31, z106_34, z106_36, pv_catN, pv_cat1, pv_cat2, pv_cat3, pv_catL, Option.toList, List.nil_append, List.cons_append, List.append_nil, pv_rfS, pn_i, pn_r, pn_n, pn_o, true_and, and_true, Nat.le_refl, and_self, true_implies, false_implies, not_true_eq_false, not_false_eq_true, pv_b0, pv_b01, pv_bn0, pv_b1, Bool.false_eq_true, Bool.true_eq_false, Bool.not_false, Bool.not_true, pv_bT, pv_bF, eq_self, true_or, or_true, G.o, G.r1, G.t103, e3, vp_nI (show p < 76 by omega) (show 76 < 2 ^ 31 by decide), nI_clamp (show p < 2 ^ 31 by omega), M.Y p hpN, m100, in48 hX (show lo < 1000 by omega) (show hi < 1000 by omega)]
  cases hd : decide (48 + lo ≤ xX x p ∧ xX x p ≤ 48 + hi) with
  | false => exact ⟨fun c2 => absurd rfl c2, fun _ => h0 (Or.inr (of_decide_eq_false hd))⟩
  | true =>
    have hd := of_decide_eq_true hd
    refine ⟨fun _ => ?_, fun c2 => absurd (fun z => by cases z) c2⟩
    have es : nI (xX x p) - 48 = nI (xX x p - 48) := pk_sub (b := 48) (by omega)
    simp only [z106_37, z106_38, y106_38, z106_39, z106_42, z106_43, z106_44, z106_47, z106_48, z106_51, z106_52, z106_55, z106_56, z106_57, z106_58, z106_60, z106_61, pv_catN, pv_cat1, pv_cat2, pv_cat3, pv_catL, Option.toList, List.nil_append, List.cons_append, List.append_nil, pv_rfS, pn_i, pn_r, pn_n, pn_o, true_and, and_true, Nat.le_refl, and_self, true_implies, false_implies, not_true_eq_false, not_false_eq_true, pv_b0, pv_b01, pv_bn0, pv_b1, Bool.false_eq_true, Bool.true_eq_false, Bool.not_false, Bool.not_true, pv_bT, pv_bF, eq_self, true_or, or_true, G.o, G.r1, G.t103, e3, nI_1, st_at, nI_pred, st_o (show 103 ≠ 102 by decide), vp_nI (show p < 76 by omega) (show 76 < 2 ^ 31 by decide), nI_clamp (show p < 2 ^ 31 by omega), M.Y p hpN, es]
    exact h1 (xX x p - 48) hpN (by omega) (by omega) (by omega)
def mxN (f : Nat → Nat) : Nat → Nat
  | 0 => 0
  | n + 1 => if mxN f n < f n then f n else mxN f n
theorem mxN_le {f : Nat → Nat} {b : Nat} : ∀ {n}, (∀ r, r < n → f r ≤ b) → mxN f n ≤ b
  | 0, _ => Nat.zero_le _
  | n + 1, h => by
    unfold mxN
    split
    · exact h n (by omega)
    · exact mxN_le (fun r hr => h r (by omega))
theorem mxN_any {f : Nat → Nat} {w : Nat} (hw : 1 ≤ w) : ∀ {n}, anyN (fun g => decide (w ≤ f g)) n = decide (w ≤ mxN f n)
  | 0 => by
    show false = decide (w ≤ 0)
    rw [decide_eq_false (by omega)]
  | n + 1 => by
    unfold anyN mxN
    rw [mxN_any hw]
    rw [← Bool.decide_or]
    apply decide_eq_decide.mpr
    split <;> omega
theorem m107 {d : Nat} {P : PvP} {g : PvG} {h : PvH} {s : RS} (G : gM g) (C : mR2 h s) (O : okA s) (h4 : 4 ≤ aS s) (hP : P (some (.int (nI (mxN (aM s) (aF s))))) g h) : pv_run (d + 1) 107 [.ref 102] g h P := by
  have hF := (O.F (by omega)).2
  have hL := O.L h4
  have loop : ∀ n f, f + n = aF s → pv_E d 107 P 4 [some (.ref 102), some (.int (nI (mxN (aM s) f))), some (.int (nI f))] [] 0 0 g h := by
    intro n
    induction n with
    | zero =>
      intro f hf
      have hf : f = aF s := hf
      subst hf
      rw [z107_4]
      simp only [z107_5, z107_6, z107_9, z107_39, z107_40, pv_catN, pv_cat1, pv_cat2, pv_cat3, pv_catL, Option.toList, List.nil_append, List.cons_append, List.append_nil, pv_rfS, pn_i, pn_r, pn_n, pn_o, true_and, and_true, Nat.le_refl, and_self, true_implies, false_implies, not_true_eq_false, not_false_eq_true, pv_b0, pv_b01, pv_bn0, pv_b1, Bool.false_eq_true, Bool.true_eq_false, Bool.not_false, Bool.not_true, pv_bT, pv_bF, eq_self, true_or, or_true, G.o, C.1, nI_le' (show aF s < 2 ^ 31 by omega) (show aF s < 2 ^ 31 by omega)]
      exact hP
    | succ n ih =>
      intro f hf
      have hfF : f < aF s := by omega
      have hM := O.M h4 hfF
      have hx : mxN (aM s) f ≤ 99 := mxN_le (fun r hr => O.M h4 (by omega))
      have ih := ih (f + 1) (by omega)
      rw [z107_4]
      simp only [z107_5, z107_6, z107_9, z107_12, z107_13, z107_16, z107_17, z107_18, z107_19, z107_22, z107_23, z107_26, z107_27, z107_28, z107_31, z107_32, z107_33, z107_36, pv_catN, pv_cat1, pv_cat2, pv_cat3, pv_catL, Option.toList, List.nil_append, List.cons_append, List.append_nil, pv_rfS, pn_i, pn_r, pn_n, pn_o, true_and, and_true, Nat.le_refl, and_self, true_implies, false_implies, not_true_eq_false, not_false_eq_true, pv_b0, pv_b01, pv_bn0, pv_b1, Bool.false_eq_true, Bool.true_eq_false, Bool.not_false, Bool.not_true, pv_bT, pv_bF, eq_self, true_or, or_true, G.o, C.1, G.r20, G.t114, nI_le' (show aF s < 2 ^ 31 by omega) (show f < 2 ^ 31 by omega), show (aF s ≤ f) = False from eq_false (by omega), vp_nI (show f < 5 by omega) (show 5 < 2 ^ 31 by decide), nI_clamp (show f < 2 ^ 31 by omega), (C.2.2.1 f (by omega)).1, nI_le' (show aM s f < 2 ^ 31 by omega) (show mxN (aM s) f < 2 ^ 31 by omega), nI_1]
      unfold mxN at ih
      refine ⟨fun c => ?_, fun c => ?_⟩
      · rw [if_neg (by omega)] at ih
        exact ih
      · rw [if_pos (by omega)] at ih
        exact ih
  simp only [e107, z107_0, z107_1, z107_2, z107_3, pv_catN, pv_cat1, pv_cat2, pv_cat3, pv_catL, Option.toList, List.nil_append, List.cons_append, List.append_nil, pv_rfS, pn_i, pn_r, pn_n, pn_o, true_and, and_true, Nat.le_refl, and_self, true_implies, false_implies, not_true_eq_false, not_false_eq_true, pv_b0, pv_b01, pv_bn0, pv_b1, Bool.false_eq_true, Bool.true_eq_false, Bool.not_false, Bool.not_true, pv_bT, pv_bF, eq_self, true_or, or_true]
  exact loop (aF s) 0 (Nat.zero_add _)
theorem m108 {d : Nat} {P : PvP} {g : PvG} {h : PvH} {x : SX} {s : RS} (G : gM g) (M : cD h x) (O : okX x) (C : mR2 h s) (A : okA s) (h4 : 4 ≤ aS s) {p w k : Nat} {i5 : Int32} (hp : p ≤ xN x) (e3 : h 102 3 = nI p) (hw : w ≤ 9) (hk : k ≤ 3) (h0 : (p = xN x ∨ ∀ f, xX x p = 48 + f → ¬ (f < aF s ∧ w ≤ aM s f ∧ (k = 3 → nI f = i5))) → P (some (.int (-9))) g h) (h1 : ∀ f, p < xN x → xX x p = 48 + f → f < aF s → w ≤ aM s f → (k = 3 → nI f = i5) → P (some (.int (nI f))) g (pv_st h 102 3 (nI (p + 1)))) : pv_run (d + 2) 108 [.ref 102, .int (nI w), .int (nI k), .int i5] g h P := by
  have hN := O.N76
  have hF := A.F (by omega)
  have hL := A.L h4
  have eF : nI (aF s) - 1 = nI (aF s - 1) := pk_sub (b := 1) (by omega)
  have l0 : (0 : Int64) = (nI 0).toInt64 := rfl
  simp only [e108, z108_0, z108_1, z108_4, z108_5, z108_8, z108_26, pv_catN, pv_cat1, pv_cat2, pv_cat3, pv_catL, Option.toList, List.nil_append, List.cons_append, List.append_nil, pv_rfS, pn_i, pn_r, pn_n, pn_o, true_and, and_true, Nat.le_refl, and_self, true_implies, false_implies, not_true_eq_false, not_false_eq_true, pv_b0, pv_b01, pv_bn0, pv_b1, Bool.false_eq_true, Bool.true_eq_false, Bool.not_false, Bool.not_true, pv_bT, pv_bF, eq_self, true_or, or_true, G.o, e3, M.N, nI_le' (show xN x < 2 ^ 31 by omega) (show p < 2 ^ 31 by omega)]
  refine ⟨fun c => ?_, fun c => ?_⟩
  · have e : decide ((0 : Int64) ≤ (-9 : Int32).toInt64 ∧ (-9 : Int32).toInt64 ≤ (nI (aF s - 1)).toInt64) = false := decide_eq_false (fun z => absurd z.1 (by decide))
    simp only [z108_28, z108_30, z108_32, z108_33, z108_34, z108_35, z108_38, z108_39, z108_40, z108_41, z108_44, z108_69, z108_71, pv_catN, pv_cat1, pv_cat2, pv_cat3, pv_catL, Option.toList, List.nil_append, List.cons_append, List.append_nil, pv_rfS, pn_i, pn_r, pn_n, pn_o, true_and, and_true, Nat.le_refl, and_self, true_implies, false_implies, not_true_eq_false, not_false_eq_true, pv_b0, pv_b01, pv_bn0, pv_b1, Bool.false_eq_true, Bool.true_eq_false, Bool.not_false, Bool.not_true, pv_bT, pv_bF, eq_self, true_or, or_true, G.o, C.1, eF, m100, e]
    exact h0 (Or.inl (by omega))
  · have hpN : p < xN x := by omega
    have hX := O.X8 p hpN
    have e : decide ((0 : Int64) ≤ (nI (xX x p) - 48).toInt64 ∧ (nI (xX x p) - 48).toInt64 ≤ (nI (aF s - 1)).toInt64) = decide (48 ≤ xX x p ∧ xX x p < 48 + aF s) := by
      rw [l0, in48 hX (by omega) (by omega)]
      exact decide_eq_decide.mpr (by omega)
    simp only [z108_11, z108_12, z108_15, z108_16, z108_19, z108_20, z108_22, z108_23, z108_28, z108_30, z108_32, z108_33, z108_34, z108_35, z108_38, z108_39, z108_40, z108_41, z108_44, z108_69, z108_71, pv_catN, pv_cat1, pv_cat2, pv_cat3, pv_catL, Option.toList, List.nil_append, List.cons_append, List.append_nil, pv_rfS, pn_i, pn_r, pn_n, pn_o, true_and, and_true, Nat.le_refl, and_self, true_implies, false_implies, not_true_eq_false, not_false_eq_true, pv_b0, pv_b01, pv_bn0, pv_b1, Bool.false_eq_true, Bool.true_eq_false, Bool.not_false, Bool.not_true, pv_bT, pv_bF, eq_self, true_or, or_true, G.o, G.r1, G.t103, e3, vp_nI (show p < 76 by omega) (show 76 < 2 ^ 31 by decide), nI_clamp (show p < 2 ^ 31 by omega), M.Y p hpN, C.1, eF, m100, e]
    cases hd : decide (48 ≤ xX x p ∧ xX x p < 48 + aF s) with
    | false =>
      have hd := of_decide_eq_false hd
      exact ⟨fun _ => h0 (Or.inr (fun f hf z => hd ⟨by omega, by omega⟩)), fun c2 => absurd rfl c2⟩
    | true =>
      have hd := of_decide_eq_true hd
      refine ⟨fun c2 => (by cases c2), fun _ => ?_⟩
      have es : nI (xX x p) - 48 = nI (xX x p - 48) := pk_sub (b := 48) (by omega)
      obtain ⟨f, hf⟩ : ∃ f, xX x p = 48 + f := ⟨xX x p - 48, by omega⟩
      have ef : xX x p - 48 = f := by omega
      rw [ef] at es
      have hfF : f < aF s := by omega
      have hM := A.M h4 hfF
      have k3 : (nI k = 3) = (k = 3) := nI_eq' (b := 3) (by omega) (by decide)
      have no : ¬ (w ≤ aM s f ∧ (k = 3 → nI f = i5)) → P (some (.int (-9))) g h := fun c => h0 (Or.inr (fun f' hf' z => by
        have : f' = f := by omega
        subst this
        exact c z.2))
      have yes : w ≤ aM s f → (k = 3 → nI f = i5) → P (some (.int (nI f))) g (pv_st h 102 3 (nI (p + 1))) := h1 f hpN hf hfF
      simp only [z108_47, z108_48, z108_51, z108_53, z108_54, z108_55, z108_58, z108_59, z108_60, z108_63, z108_65, z108_66, z108_69, z108_71, z108_72, z108_73, y108_73, z108_74, z108_77, z108_78, z108_79, z108_82, z108_84, pv_catN, pv_cat1, pv_cat2, pv_cat3, pv_catL, Option.toList, List.nil_append, List.cons_append, List.append_nil, pv_rfS, pn_i, pn_r, pn_n, pn_o, true_and, and_true, Nat.le_refl, and_self, true_implies, false_implies, not_true_eq_false, not_false_eq_true, pv_b0, pv_b01, pv_bn0, pv_b1, Bool.false_eq_true, Bool.true_eq_false, Bool.not_false, Bool.not_true, pv_bT, pv_bF, eq_self, true_or, or_true, G.o, G.r20, G.t114, es, vp_nI (show f < 5 by omega) (show 5 < 2 ^ 31 by decide), nI_clamp (show f < 2 ^ 31 by omega), (C.2.2.1 f (by omega)).1, nI_lt' (show aM s f < 2 ^ 31 by omega) (show w < 2 ^ 31 by omega), k3, e3, nI_1]
      refine ⟨fun c2 => no (by omega), fun c2 => ⟨fun c3 => yes (by omega) (fun z => absurd z c3), fun c3 => ⟨fun c4 => yes (by omega) (fun _ => c4), fun c4 => no (fun z => c4 (z.2 (Classical.not_not.mp c3)))⟩⟩⟩
theorem anyN_congr {p q : Nat → Bool} : ∀ {n}, (∀ r, r < n → p r = q r) → anyN p n = anyN q n
  | 0, _ => rfl
  | n + 1, h => by
    unfold anyN
    rw [anyN_congr (fun r hr => h r (by omega)), h n (by omega)]
theorem m110 {d : Nat} {P : PvP} {g : PvG} {h : PvH} {s : RS} (G : gM g) (C : mR2 h s) (O : okA s) {i : Nat} (hi : i < aR s) (hP : P (some (.int (pv_b (anyN (aCit s i) (aR s))))) g h) : pv_run (d + 1) 110 [.ref 102, .int (nI i)] g h P := by
  have hR := O.R
  have e8 : (8 : Int32) * nI i = nI (8 * i) := pk_mul 8 i
  have loop : ∀ n j, j + n = aR s → pv_E d 110 P 4 [some (.ref 102), some (.int (nI i)), some (.int (pv_b (anyN (aCit s i) j))), some (.int (nI j))] [] 0 0 g h := by
    intro n
    induction n with
    | zero =>
      intro j hj
      have hj : j = aR s := hj
      subst hj
      rw [z110_4]
      simp only [z110_5, z110_6, z110_9, z110_47, z110_48, pv_catN, pv_cat1, pv_cat2, pv_cat3, pv_catL, Option.toList, List.nil_append, List.cons_append, List.append_nil, pv_rfS, pn_i, pn_r, pn_n, pn_o, true_and, and_true, Nat.le_refl, and_self, true_implies, false_implies, not_true_eq_false, not_false_eq_true, pv_b0, pv_b01, pv_bn0, pv_b1, Bool.false_eq_true, Bool.true_eq_false, Bool.not_false, Bool.not_true, pv_bT, pv_bF, eq_self, true_or, or_true, G.o, C.2.1, nI_le' (show aR s < 2 ^ 31 by omega) (show aR s < 2 ^ 31 by omega)]
      exact ⟨by cases anyN (aCit s i) (aR s) <;> simp, hP⟩
    | succ n ih =>
      intro j hj
      have hjR : j < aR s := by omega
      have ih := ih (j + 1) (by omega)
      have e : anyN (aCit s i) (j + 1) = (anyN (aCit s i) j || aCit s i j) := rfl
      rw [e] at ih
      rw [z110_4]
      simp only [z110_5, z110_6, z110_9, z110_12, z110_13, z110_16, z110_17, z110_18, z110_21, z110_22, z110_25, z110_27, z110_28, z110_29, z110_30, z110_31, z110_32, z110_35, z110_36, z110_39, z110_40, z110_41, z110_44, pv_catN, pv_cat1, pv_cat2, pv_cat3, pv_catL, Option.toList, List.nil_append, List.cons_append, List.append_nil, pv_rfS, pn_i, pn_r, pn_n, pn_o, true_and, and_true, Nat.le_refl, and_self, true_implies, false_implies, not_true_eq_false, not_false_eq_true, pv_b0, pv_b01, pv_bn0, pv_b1, Bool.false_eq_true, Bool.true_eq_false, Bool.not_false, Bool.not_true, pv_bT, pv_bF, eq_self, true_or, or_true, G.o, C.2.1, G.r23, G.t116, nI_le' (show aR s < 2 ^ 31 by omega) (show j < 2 ^ 31 by omega), show (aR s ≤ j) = False from eq_false (by omega), e8, nI_add, vp_nI (show 8 * i + j < 64 by omega) (show 64 < 2 ^ 31 by decide), nI_clamp (show 8 * i + j < 2 ^ 31 by omega), C.2.2.2.2 i j (by omega) (by omega), nI_eq' (show i < 2 ^ 31 by omega) (show j < 2 ^ 31 by omega), nI_1]
      have key : aCit s i j = (!decide (j = i) && !(aC s i).testBit j) := rfl
      cases h1 : anyN (aCit s i) j with
      | true =>
        rw [h1] at ih
        exact ⟨fun _ => ih, fun c => absurd (fun z => by cases z) c⟩
      | false =>
        rw [h1, Bool.false_or] at ih
        refine ⟨fun c => absurd rfl c, fun _ => ⟨fun c => ?_, fun c => ?_⟩⟩
        · rw [key, decide_eq_true c.symm] at ih
          exact ih
        · rw [key, decide_eq_false (fun z => c z.symm)] at ih
          cases h2 : (aC s i).testBit j with
          | true =>
            rw [h2] at ih
            exact ⟨fun _ => ih, fun c => absurd (fun z => by cases z) c⟩
          | false =>
            rw [h2] at ih
            exact ⟨fun c => absurd rfl c, fun _ => ih⟩
  simp only [e110, z110_0, z110_1, z110_2, z110_3, pv_catN, pv_cat1, pv_cat2, pv_cat3, pv_catL, Option.toList, List.nil_append, List.cons_append, List.append_nil, pv_rfS, pn_i, pn_r, pn_n, pn_o, true_and, and_true, Nat.le_refl, and_self, true_implies, false_implies, not_true_eq_false, not_false_eq_true, pv_b0, pv_b01, pv_bn0, pv_b1, Bool.false_eq_true, Bool.true_eq_false, Bool.not_false, Bool.not_true, pv_bT, pv_bF, eq_self, true_or, or_true]
  exact loop (aR s) 0 (Nat.zero_add _)
theorem aCan_any {s : RS} : anyN (aCan s) (aR s) = anyN (fun i => anyN (aCit s i) (aR s)) (aR s) := anyN_congr (fun r hr => by
  unfold aCan
  rw [decide_eq_true hr, Bool.true_and])
theorem m111 {d : Nat} {P : PvP} {g : PvG} {h : PvH} {s : RS} (G : gM g) (C : mR2 h s) (O : okA s) (hP : P (some (.int (pv_b (anyN (aCan s) (aR s))))) g h) : pv_run (d + 2) 111 [.ref 102] g h P := by
  have hR := O.R
  rw [aCan_any] at hP
  have loop : ∀ n j, j + n = aR s → pv_E (d + 1) 111 P 4 [some (.ref 102), some (.int (pv_b (anyN (fun i => anyN (aCit s i) (aR s)) j))), some (.int (nI j))] [] 0 0 g h := by
    intro n
    induction n with
    | zero =>
      intro j hj
      have hj : j = aR s := hj
      subst hj
      rw [z111_4]
      simp only [z111_5, z111_6, z111_9, z111_36, z111_37, pv_catN, pv_cat1, pv_cat2, pv_cat3, pv_catL, Option.toList, List.nil_append, List.cons_append, List.append_nil, pv_rfS, pn_i, pn_r, pn_n, pn_o, true_and, and_true, Nat.le_refl, and_self, true_implies, false_implies, not_true_eq_false, not_false_eq_true, pv_b0, pv_b01, pv_bn0, pv_b1, Bool.false_eq_true, Bool.true_eq_false, Bool.not_false, Bool.not_true, pv_bT, pv_bF, eq_self, true_or, or_true, G.o, C.2.1, nI_le' (show aR s < 2 ^ 31 by omega) (show aR s < 2 ^ 31 by omega)]
      exact ⟨by cases anyN (fun i => anyN (aCit s i) (aR s)) (aR s) <;> simp, hP⟩
    | succ n ih =>
      intro j hj
      have hjR : j < aR s := by omega
      have ih := ih (j + 1) (by omega)
      have e : anyN (fun i => anyN (aCit s i) (aR s)) (j + 1) = (anyN (fun i => anyN (aCit s i) (aR s)) j || anyN (aCit s j) (aR s)) := rfl
      rw [e] at ih
      rw [z111_4]
      simp only [z111_5, z111_6, z111_9, z111_12, z111_13, z111_16, z111_17, z111_24, z111_25, z111_29, z111_30, z111_33, pv_catN, pv_cat1, pv_cat2, pv_cat3, pv_catL, Option.toList, List.nil_append, List.cons_append, List.append_nil, pv_rfS, pn_i, pn_r, pn_n, pn_o, true_and, and_true, Nat.le_refl, and_self, true_implies, false_implies, not_true_eq_false, not_false_eq_true, pv_b0, pv_b01, pv_bn0, pv_b1, Bool.false_eq_true, Bool.true_eq_false, Bool.not_false, Bool.not_true, pv_bT, pv_bF, eq_self, true_or, or_true, G.o, C.2.1, nI_le' (show aR s < 2 ^ 31 by omega) (show j < 2 ^ 31 by omega), show (aR s ≤ j) = False from eq_false (by omega), nI_1]
      cases h1 : anyN (fun i => anyN (aCit s i) (aR s)) j with
      | true =>
        rw [h1] at ih
        exact ⟨fun _ => ih, fun c => absurd (fun z => by cases z) c⟩
      | false =>
        rw [h1, Bool.false_or] at ih
        refine ⟨fun c => absurd rfl c, fun _ => ?_⟩
        rw [z111_18 (by simp [pv_cat, Value.category]) (by decide)]
        refine ⟨G.o, m110 G C O hjR ?_⟩
        simp only [z111_21, z111_24, z111_25, z111_28, z111_29, z111_30, z111_33, pv_catN, pv_cat1, pv_cat2, pv_cat3, pv_catL, Option.toList, List.nil_append, List.cons_append, List.append_nil, pv_rfS, pn_i, pn_r, pn_n, pn_o, true_and, and_true, Nat.le_refl, and_self, true_implies, false_implies, not_true_eq_false, not_false_eq_true, pv_b0, pv_b01, pv_bn0, pv_b1, Bool.false_eq_true, Bool.true_eq_false, Bool.not_false, Bool.not_true, pv_bT, pv_bF, eq_self, true_or, or_true, nI_1]
        refine br (fun c => ?_) (fun c => ?_)
        · rw [c] at ih; exact ih
        · rw [c] at ih; exact ih
  simp only [e111, z111_0, z111_1, z111_2, z111_3, pv_catN, pv_cat1, pv_cat2, pv_cat3, pv_catL, Option.toList, List.nil_append, List.cons_append, List.append_nil, pv_rfS, pn_i, pn_r, pn_n, pn_o, true_and, and_true, Nat.le_refl, and_self, true_implies, false_implies, not_true_eq_false, not_false_eq_true, pv_b0, pv_b01, pv_bn0, pv_b1, Bool.false_eq_true, Bool.true_eq_false, Bool.not_false, Bool.not_true, pv_bT, pv_bF, eq_self, true_or, or_true]
  exact loop (aR s) 0 (Nat.zero_add _)
