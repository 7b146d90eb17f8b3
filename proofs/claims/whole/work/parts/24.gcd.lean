/-! the greatest divisor, fractions; lookUp, lies, mend -/
theorem lcE {a b : Int64} : (lg_cmp a b = 0) = (a = b) := propext (lg_cmp_eq _ _)
theorem l0 : (0 : Int64) = lN 0 := rfl
theorem lN_z {a : Nat} (h : a < 2 ^ 63) : (lN a = 0) = (a = 0) := propext (by rw [l0]; exact pk_lEQ h (by decide))
theorem gcd_s (a b : Nat) : Nat.gcd a b = Nat.gcd b (a % b) := by rw [Nat.gcd_comm, Nat.gcd_rec, Nat.gcd_comm]
theorem m97_s {d : Nat} {P : PvP} {g : PvG} {h : PvH} {A B : Int64} {x9 : Option Value} {a b t : Nat} (ha : a < 2 ^ 63) (hb : b < 2 ^ 63) (ht : t < 128) (h0 : b = 0 → P (some (.long (lN a))) g h) (h1 : b ≠ 0 → pv_E d 97 P 9 [some (.long A), none, some (.long B), none, some (.long (lN b)), none, some (.long (lN (a % b))), none, some (.int (nI (t + 1))), some (.long (lN (a % b))), none] [] 0 0 g h) : pv_E d 97 P 9 [some (.long A), none, some (.long B), none, some (.long (lN a)), none, some (.long (lN b)), none, some (.int (nI t)), x9, none] [] 0 0 g h := by
  rw [z97_9]
  simp only [z97_0, z97_1, z97_3, z97_4, z97_6, z97_7, z97_11, z97_14, z97_17, z97_19, z97_20, z97_21, z97_24, z97_26, z97_28, z97_29, z97_31, z97_33, z97_35, z97_37, z97_39, z97_42, z97_45, z97_47, pv_catN, pv_cat1, pv_cat2, pv_cat3, pv_catL, Option.toList, List.nil_append, List.cons_append, List.append_nil, pv_rfS, pn_i, pn_r, pn_n, pn_o, true_and, and_true, Nat.le_refl, and_self, true_implies, false_implies, not_true_eq_false, not_false_eq_true, pv_b0, pv_b01, pv_bn0, pv_b1, Bool.false_eq_true, Bool.true_eq_false, Bool.not_false, Bool.not_true, pv_bT, pv_bF, eq_self, lcE, lN_z hb, nI_1, show ((128 : Int32) ≤ nI t) = False from eq_false (by rw [show (128 : Int32) = nI 128 from rfl, nI_le' (by decide) (by omega)]; omega)]
  refine ⟨h0, fun c => ⟨c, ?_⟩⟩
  have := h1 c
  rw [← pk_lRem ha (by omega) hb] at this
  exact this
theorem m97_l {d : Nat} {P : PvP} {g : PvG} {h : PvH} {A B : Int64} : ∀ (m a b t : Nat) (x9 : Option Value), b < 2 ^ m → t + 2 * m + 1 ≤ 128 → a < 2 ^ 63 → b < 2 ^ 63 → P (some (.long (lN (Nat.gcd a b)))) g h → pv_E d 97 P 9 [some (.long A), none, some (.long B), none, some (.long (lN a)), none, some (.long (lN b)), none, some (.int (nI t)), x9, none] [] 0 0 g h := by
  intro m
  induction m with
  | zero =>
    intro a b t x9 hb ht ha hb2 hP
    have hb0 : b = 0 := by simpa using hb
    refine m97_s ha hb2 (by omega) (fun c => ?_) (fun c => absurd hb0 c)
    rw [hb0, Nat.gcd_zero_right] at hP
    exact hP
  | succ m ih =>
    intro a b t x9 hb ht ha hb2 hP
    refine m97_s ha hb2 (by omega) (fun c => ?_) (fun c => ?_)
    · rw [c, Nat.gcd_zero_right] at hP
      exact hP
    · have hr : a % b < b := Nat.mod_lt _ (by omega)
      rw [gcd_s] at hP
      refine m97_s hb2 (by omega) (by omega) (fun c2 => ?_) (fun c2 => ?_)
      · rw [c2, Nat.gcd_zero_right] at hP
        exact hP
      · rw [gcd_s] at hP
        have h3 : b % (a % b) < a % b := Nat.mod_lt _ (by omega)
        have h4 : b % (a % b) + (a % b) ≤ b := by
          have e := Nat.div_add_mod b (a % b)
          have q1 : 1 ≤ b / (a % b) := (Nat.one_le_div_iff (by omega)).mpr (by omega)
          have := Nat.mul_le_mul_left (a % b) q1
          omega
        refine ih _ _ _ _ ?_ (by omega) (by omega) (by omega) hP
        have : 2 ^ (m + 1) = 2 * 2 ^ m := by rw [Nat.pow_succ, Nat.mul_comm]
        omega
theorem m97 {d : Nat} {P : PvP} {g : PvG} {h : PvH} {a b : Nat} (ha : a < 2 ^ 63) (hb : b < 2 ^ 62) (hP : P (some (.long (lN (Nat.gcd a b)))) g h) : pv_run (d + 1) 97 [.long (lN a), .long (lN b)] g h P := by
  simp only [e97, z97_0, z97_1, z97_3, z97_4, z97_6, z97_7, pv_catN, pv_cat1, pv_cat2, pv_cat3, pv_catL, Option.toList, List.nil_append, List.cons_append, List.append_nil, pv_rfS, pn_i, pn_r, pn_n, pn_o, true_and, and_true, Nat.le_refl, and_self, true_implies, false_implies, not_true_eq_false, not_false_eq_true, pv_b0, pv_b01, pv_bn0, pv_b1, Bool.false_eq_true, Bool.true_eq_false, Bool.not_false, Bool.not_true, pv_bT, pv_bF, eq_self]
  exact m97_l 62 a b 0 _ hb (by omega) ha (by omega) hP
theorem m156_l {d : Nat} {P : PvP} {g : PvG} {h : PvH} {A B : Int64} : ∀ (n a b : Nat) (x8 : Option Value), b < n → a < 2 ^ 63 → b < 2 ^ 63 → P (some (.long (lN (Nat.gcd a b)))) g h → pv_E d 156 P 6 [some (.long A), none, some (.long B), none, some (.long (lN a)), none, some (.long (lN b)), none, x8, none] [] 0 0 g h := by
  intro n
  induction n with
  | zero => intro a b x8 hn; exact absurd hn (Nat.not_lt_zero b)
  | succ n ih =>
    intro a b x8 hn ha hb hP
    rw [z156_6]
    simp only [z156_0, z156_1, z156_3, z156_4, z156_8, z156_9, z156_10, z156_13, z156_15, z156_17, z156_18, z156_20, z156_22, z156_24, z156_26, z156_28, z156_31, z156_33, pv_catN, pv_cat1, pv_cat2, pv_cat3, pv_catL, Option.toList, List.nil_append, List.cons_append, List.append_nil, pv_rfS, pn_i, pn_r, pn_n, pn_o, true_and, and_true, Nat.le_refl, and_self, true_implies, false_implies, not_true_eq_false, not_false_eq_true, pv_b0, pv_b01, pv_bn0, pv_b1, Bool.false_eq_true, Bool.true_eq_false, Bool.not_false, Bool.not_true, pv_bT, pv_bF, eq_self, lcE, lN_z hb]
    refine ⟨fun c => ?_, fun c => ⟨c, ?_⟩⟩
    · rw [c, Nat.gcd_zero_right] at hP
      exact hP
    · rw [pk_lRem ha (by omega) hb]
      have hr : a % b < b := Nat.mod_lt _ (by omega)
      rw [gcd_s] at hP
      exact ih b (a % b) _ (by omega) hb (by omega) hP
theorem m156 {d : Nat} {P : PvP} {g : PvG} {h : PvH} {a b : Nat} (ha : a < 2 ^ 63) (hb : b < 2 ^ 63) (hP : P (some (.long (lN (Nat.gcd a b)))) g h) : pv_run (d + 1) 156 [.long (lN a), .long (lN b)] g h P := by
  simp only [e156, z156_0, z156_1, z156_3, z156_4, pv_catN, pv_cat1, pv_cat2, pv_cat3, pv_catL, Option.toList, List.nil_append, List.cons_append, List.append_nil, pv_rfS, pn_i, pn_r, pn_n, pn_o, true_and, and_true, Nat.le_refl, and_self, true_implies, false_implies, not_true_eq_false, not_false_eq_true, pv_b0, pv_b01, pv_bn0, pv_b1, Bool.false_eq_true, Bool.true_eq_false, Bool.not_false, Bool.not_true, pv_bT, pv_bF, eq_self]
  exact m156_l (b + 1) a b _ (Nat.lt_succ_self b) ha hb hP
/-- a fraction in least terms: above, below -/
def frac (a b : Nat) (u : Bool) : Nat := if a = 0 ∨ b = 0 then (if u then 0 else 1) else (if u then a else b) / Nat.gcd a b
theorem m96 {d : Nat} {P : PvP} {g : PvG} {h : PvH} {a b : Nat} {u : Bool} (ha : a < 2 ^ 62) (hb : b < 2 ^ 62) (hP : P (some (.long (lN (frac a b u)))) g h) : pv_run (d + 2) 96 [.long (lN a), .long (lN b), .int (pv_b u)] g h P := by
  simp only [e96, z96_0, z96_1, z96_2, z96_3, z96_6, z96_7, z96_8, z96_9, z96_12, z96_14, z96_17, z96_18, z96_21, z96_22, z96_23, z96_24, z96_28, z96_30, z96_32, z96_33, z96_34, z96_37, z96_38, z96_39, z96_41, z96_44, z96_45, z96_48, z96_49, z96_51, z96_52, pv_catN, pv_cat1, pv_cat2, pv_cat3, pv_catL, Option.toList, List.nil_append, List.cons_append, List.append_nil, pv_rfS, pn_i, pn_r, pn_n, pn_o, true_and, and_true, Nat.le_refl, and_self, true_implies, false_implies, not_true_eq_false, not_false_eq_true, pv_b0, pv_b01, pv_bn0, pv_b1, Bool.false_eq_true, Bool.true_eq_false, Bool.not_false, Bool.not_true, pv_bT, pv_bF, eq_self, lcE, lN_z (show a < 2 ^ 63 by omega), lN_z (show b < 2 ^ 63 by omega)]
  have z0 : a = 0 ∨ b = 0 → (u = false → P (some (.long 1)) g h) ∧ (¬ u = false → P (some (.long 0)) g h) := fun c => by
    unfold frac at hP
    rw [if_pos c] at hP
    cases u
    · exact ⟨fun _ => hP, fun q => absurd rfl q⟩
    · exact ⟨fun q => (by cases q), fun _ => hP⟩
  refine ⟨fun c => z0 (Or.inl c), fun c => ⟨fun c2 => ?_, fun c2 => z0 (Or.inr (Classical.byContradiction c2))⟩⟩
  rw [z96_25 (by simp [pv_cat]) (by decide)]
  refine m97 (by omega) hb ?_
  have hg : Nat.gcd a b ≤ a := Nat.gcd_le_left b (by omega)
  have hg0 : Nat.gcd a b ≠ 0 := fun q => c (Nat.eq_zero_of_gcd_eq_zero_left q)
  simp only [z96_0, z96_1, z96_2, z96_3, z96_6, z96_7, z96_8, z96_9, z96_12, z96_14, z96_17, z96_18, z96_21, z96_22, z96_23, z96_24, z96_25, z96_28, z96_30, z96_32, z96_33, z96_34, z96_37, z96_38, z96_39, z96_41, z96_44, z96_45, z96_48, z96_49, z96_51, z96_52, pv_catN, pv_cat1, pv_cat2, pv_cat3, pv_catL, Option.toList, List.nil_append, List.cons_append, List.append_nil, pv_rfS, pn_i, pn_r, pn_n, pn_o, true_and, and_true, Nat.le_refl, and_self, true_implies, false_implies, not_true_eq_false, not_false_eq_true, pv_b0, pv_b01, pv_bn0, pv_b1, Bool.false_eq_true, Bool.true_eq_false, Bool.not_false, Bool.not_true, pv_bT, pv_bF, eq_self, lcE, lN_z (show Nat.gcd a b < 2 ^ 63 by omega)]
  unfold frac at hP
  rw [if_neg (by omega)] at hP
  refine ⟨fun _ => ⟨fun q => ⟨hg0, ?_⟩, fun q => ⟨hg0, ?_⟩⟩, fun q => absurd hg0 q⟩
  · rw [pk_lDiv (by omega) (by omega) (by omega)]
    simpa [q] using hP
  · rw [pk_lDiv (by omega) (by omega) (by omega)]
    have q : u = true := by simpa using q
    simpa [q] using hP
/-- records of which the index says otherwise -/
def lie (s : SS) (ix : Nat → Nat) (r : Nat) : Bool := th s r && !decide (ix r = sP s r)
def nLie (s : SS) (ix : Nat → Nat) (R : Nat) : Nat := sm (fun r => if lie s ix r then 1 else 0) R
theorem m90 {d : Nat} {P : PvP} {g : PvG} {h : PvH} {rt tt : Nat} {q : Nat → Nat} {x : SX} (G : gC g rt tt q) (C : cC h rt q x) (O : okX x) {r : Nat} (hr : r < tR (xT x)) {ix : Nat → Nat} (hX : h 24 r = nI (ix r)) (hi : ix r < 2 ^ 31) : pv_run (d + 3) 90 [.ref 0, .int (nI r)] g h P = P (some (.int (pv_b (lie (xS x) ix r)))) g h := by
  have hR := O.R
  have hp := O.p31 r hr
  simp only [e90, z90_0, z90_1, z90_4, z90_5, z90_8, z90_11, z90_12, z90_15, z90_16, z90_17, z90_18, z90_21, z90_24, z90_25, z90_26, z90_29, z90_30, z90_33, z90_34, pv_catN, pv_cat1, pv_cat2, pv_cat3, pv_catL, Option.toList, List.nil_append, List.cons_append, List.append_nil, pv_rfS, pn_i, pn_r, pn_n, pn_o, true_and, and_true, Nat.le_refl, and_self, true_implies, false_implies, not_true_eq_false, not_false_eq_true, pv_b0, pv_b01, pv_bn0, pv_b1, Bool.false_eq_true, Bool.true_eq_false, Bool.not_false, Bool.not_true, pv_bT, pv_bF, eq_self, G.o0, G.r0_4, G.r0_5, G.S20.1, G.S20.2.1, G.S20.2.2.2.2.1, G.t24, m42 G.S20 C.S O.D (show r < 32 by omega), vp_nI (show r < 8 by omega) (show 8 < 2 ^ 31 by decide), nI_clamp (show r < 2 ^ 31 by omega), hX, C.S.1 r hr, nI_eq' hi hp]
  unfold lie
  cases th (xS x) r <;> by_cases c : ix r = sP (xS x) r <;> simp [c, pv_b]
theorem nLie_le (s : SS) (ix : Nat → Nat) (R : Nat) : nLie s ix R ≤ R := by
  have := sm_le (f := fun r => if lie s ix r then 1 else 0) (b := 1) (n := R) (fun r _ => by split <;> omega)
  unfold nLie
  omega
theorem m87 {d : Nat} {P : PvP} {g : PvG} {h : PvH} {rt tt : Nat} {q : Nat → Nat} {x : SX} (G : gC g rt tt q) (C : cC h rt q x) (O : okX x) : pv_run (d + 2) 87 [.ref 0] g h P = P (some (.int (nI (pc (mk (th (xS x)) (tR (xT x))))))) g h := by
  have := many_there (t := xT x) (s := xS x) O.R O.S.2.1
  simp only [e87, z87_0, z87_1, z87_4, z87_7, z87_8, z87_11, z87_14, z87_17, z87_18, pv_catN, pv_cat1, pv_cat2, pv_cat3, pv_catL, Option.toList, List.nil_append, List.cons_append, List.append_nil, pv_rfS, pn_i, pn_r, pn_n, pn_o, true_and, and_true, Nat.le_refl, and_self, true_implies, false_implies, not_true_eq_false, not_false_eq_true, pv_b0, pv_b01, pv_bn0, pv_b1, Bool.false_eq_true, Bool.true_eq_false, Bool.not_false, Bool.not_true, pv_bT, pv_bF, eq_self, G.o0, G.r0_3, G.r0_4, G.Tr.1, G.S20.1, C.T.2.2.1, C.S.2.2.2.1, m165 O.D, pk_sub (show pc (sD (xS x)) ≤ tR (xT x) by omega)]
  rw [show tR (xT x) - pc (sD (xS x)) = pc (mk (th (xS x)) (tR (xT x))) by omega]
def nTh (x : SX) : Nat := pc (mk (th (xS x)) (tR (xT x)))
theorem nTh_le {x : SX} (O : okX x) : nTh x ≤ 8 := by
  have := many_there (t := xT x) (s := xS x) O.R O.S.2.1
  have := O.R
  unfold nTh
  omega
def liesA (x : SX) (u : Bool) : Nat := frac (nLie (xS x) (xI x) (tR (xT x))) (nTh x) u
theorem l31 {a : Nat} (h : a < 2 ^ 31) : (nI a).toInt64 = lN a := nI_l h
theorem okX.I31 {x : SX} (O : okX x) : ∀ r, r < tR (xT x) → xI x r < 2 ^ 31 := fun r hr => by
  have := O.2.2.1 r hr
  have := O.F
  omega
theorem frac_le {a b : Nat} {u : Bool} (ha : a ≤ 8) (hb : b ≤ 8) : frac a b u ≤ 8 := by
  unfold frac
  split
  · split <;> omega
  · exact Nat.le_trans (Nat.div_le_self _ _) (by split <;> omega)
theorem oC79 {x : SX} (O : okX x) (u : Bool) : OpC 4 79 [.int (pv_b u)] x (.int (nI (liesA x u))) x := by
  intro d P g h ⟨rt, tt, q, G, C⟩ hP
  have hP := hP g h ⟨rt, tt, q, G, C⟩ FG.rf FC.rf
  have hR := O.R
  have loop : ∀ n r, r + n = tR (xT x) → pv_E (d + 3) 79 P 4 [some (.ref 0), some (.int (pv_b u)), some (.int (nI (nLie (xS x) (xI x) r))), some (.int (nI r))] [] 0 0 g h := by
    intro n
    induction n with
    | zero =>
      intro r hr
      have hr : r = tR (xT x) := hr
      subst hr
      have hl := nLie_le (xS x) (xI x) (tR (xT x))
      have ht := nTh_le O
      rw [z79_4]
      simp only [z79_0, z79_1, z79_2, z79_3, z79_5, z79_6, z79_9, z79_12, z79_15, z79_16, z79_17, z79_20, z79_23, z79_26, z79_29, z79_32, z79_33, z79_34, z79_35, z79_38, z79_39, z79_43, z79_44, pv_catN, pv_cat1, pv_cat2, pv_cat3, pv_catL, Option.toList, List.nil_append, List.cons_append, List.append_nil, pv_rfS, pn_i, pn_r, pn_n, pn_o, true_and, and_true, Nat.le_refl, and_self, true_implies, false_implies, not_true_eq_false, not_false_eq_true, pv_b0, pv_b01, pv_bn0, pv_b1, Bool.false_eq_true, Bool.true_eq_false, Bool.not_false, Bool.not_true, pv_bT, pv_bF, eq_self, G.o0, G.r0_3, G.Tr.1, C.T.2.2.1, nI_le' (show tR (xT x) < 2 ^ 31 by omega) (show tR (xT x) < 2 ^ 31 by omega), m87 G C O, l31 (show nLie (xS x) (xI x) (tR (xT x)) < 2 ^ 31 by omega)]
      have ht2 : pc (mk (th (xS x)) (tR (xT x))) ≤ 8 := ht
      rw [l31 (show pc (mk (th (xS x)) (tR (xT x))) < 2 ^ 31 by omega), z79_40 (by simp [pv_cat]) (by decide)]
      refine m96 (by omega) (by omega) ?_
      simp only [z79_0, z79_1, z79_2, z79_3, z79_5, z79_6, z79_9, z79_12, z79_15, z79_16, z79_17, z79_20, z79_23, z79_26, z79_29, z79_32, z79_33, z79_34, z79_35, z79_38, z79_39, z79_43, z79_44, pv_catN, pv_cat1, pv_cat2, pv_cat3, pv_catL, Option.toList, List.nil_append, List.cons_append, List.append_nil, pv_rfS, pn_i, pn_r, pn_n, pn_o, true_and, and_true, Nat.le_refl, and_self, true_implies, false_implies, not_true_eq_false, not_false_eq_true, pv_b0, pv_b01, pv_bn0, pv_b1, Bool.false_eq_true, Bool.true_eq_false, Bool.not_false, Bool.not_true, pv_bT, pv_bF, eq_self]
      rw [lN_i]
      exact hP
    | succ n ih =>
      intro r hr
      rw [z79_4]
      simp only [z79_0, z79_1, z79_2, z79_3, z79_5, z79_6, z79_9, z79_12, z79_15, z79_16, z79_17, z79_20, z79_23, z79_26, z79_29, z79_32, z79_33, z79_34, z79_35, z79_38, z79_39, z79_43, z79_44, pv_catN, pv_cat1, pv_cat2, pv_cat3, pv_catL, Option.toList, List.nil_append, List.cons_append, List.append_nil, pv_rfS, pn_i, pn_r, pn_n, pn_o, true_and, and_true, Nat.le_refl, and_self, true_implies, false_implies, not_true_eq_false, not_false_eq_true, pv_b0, pv_b01, pv_bn0, pv_b1, Bool.false_eq_true, Bool.true_eq_false, Bool.not_false, Bool.not_true, pv_bT, pv_bF, eq_self, G.o0, G.r0_3, G.Tr.1, C.T.2.2.1, nI_le' (show tR (xT x) < 2 ^ 31 by omega) (show r < 2 ^ 31 by omega), show (tR (xT x) ≤ r) = False from eq_false (by omega), m90 G C O (show r < tR (xT x) by omega) (C.X r (by omega)) (O.I31 r (by omega)), nI_1]
      have e : nLie (xS x) (xI x) (r + 1) = nLie (xS x) (xI x) r + (if lie (xS x) (xI x) r then 1 else 0) := rfl
      have := ih (r + 1) (by omega)
      rw [e] at this
      cases hb : lie (xS x) (xI x) r <;> simpa [hb] using this
  simp only [e79, z79_0, z79_1, z79_2, z79_3, pv_catN, pv_cat1, pv_cat2, pv_cat3, pv_catL, Option.toList, List.nil_append, List.cons_append, List.append_nil, pv_rfS, pn_i, pn_r, pn_n, pn_o, true_and, and_true, Nat.le_refl, and_self, true_implies, false_implies, not_true_eq_false, not_false_eq_true, pv_b0, pv_b01, pv_bn0, pv_b1, Bool.false_eq_true, Bool.true_eq_false, Bool.not_false, Bool.not_true, pv_bT, pv_bF, eq_self]
  exact loop (tR (xT x)) 0 (Nat.zero_add _)
