/-! who hangs together: the class's chain and the model's heads are one set -/
theorem hd_le (k : Nat → Nat) : ∀ r, hd k r ≤ r
  | 0 => Nat.le_refl 0
  | r + 1 => by
    unfold hd
    split
    · have := hd_le k r; omega
    · exact Nat.le_refl _
theorem hd_3 {k : Nat → Nat} {r : Nat} (h0 : 0 < r) (h : k r = 3) : hd k r = hd k (r - 1) := by
  cases r with
  | zero => omega
  | succ r =>
    show (if k (r + 1) = 3 then hd k r else r + 1) = hd k r
    rw [if_pos h]
theorem hd_n {k : Nat → Nat} {r : Nat} (h : k r ≠ 3) : hd k r = r := by
  cases r with
  | zero => rfl
  | succ r => unfold hd; rw [if_neg h]
/-- between a record and a lower one of the same row, all are joined -/
theorem hd_mono {k : Nat → Nat} : ∀ {a b : Nat}, a ≤ b → hd k a ≤ hd k b := by
  intro a b hab
  induction b with
  | zero =>
    obtain rfl : a = 0 := by omega
    exact Nat.le_refl _
  | succ b ih =>
    rcases Nat.eq_or_lt_of_le hab with rfl | hlt
    · exact Nat.le_refl _
    · by_cases c : k (b + 1) = 3
      · rw [hd_3 (by omega) c]
        exact ih (by omega)
      · rw [hd_n c]
        have := hd_le k a
        omega
/-- joined, both there -/
def jn (s : SS) (r : Nat) : Bool := decide (sK s r = 3) && th s r && th s (r - 1)
theorem m47 {d : Nat} {P : PvP} {g : PvG} {h : PvH} {o R r : Nat} {s : SS} (G : gS g o) (S : cS h o R s) (hD : sD s < 256) (hR : R ≤ 8) (hr : r < R) (h0 : 0 < r) (hk : sK s r ≤ 3) : pv_run (d + 3) 47 [.ref o, .int (nI r)] g h P = P (some (.int (pv_b (jn s r)))) g h := by
  have e1 : nI r - 1 = nI (r - 1) := pk_sub (b := 1) h0
  simp only [e47, z47_0, z47_1, z47_4, z47_5, z47_6, z47_7, z47_10, z47_11, z47_12, z47_15, z47_18, z47_19, z47_20, z47_21, z47_22, z47_25, z47_28, z47_29, z47_32, z47_33, pv_catN, pv_cat1, pv_cat2, pv_cat3, pv_catL, Option.toList, List.nil_append, List.cons_append, List.append_nil, pv_rfS, pn_i, pn_r, pn_n, pn_o, true_and, and_true, Nat.le_refl, and_self, true_implies, false_implies, not_true_eq_false, not_false_eq_true, pv_b0, pv_b01, pv_bn0, pv_b1, Bool.false_eq_true, Bool.true_eq_false, Bool.not_false, Bool.not_true, pv_bT, pv_bF, eq_self, G.1, G.2.2.2.1, G.2.2.2.2.2.2, vp_nI (show r < 8 by omega) (show 8 < 2 ^ 31 by decide), nI_clamp (show r < 2 ^ 31 by omega), S.2.2.1 r hr, e1, m42 G S hD (show r < 32 by omega), m42 G S hD (show r - 1 < 32 by omega), show (3 : Int32) = nI 3 from rfl, nI_eq' (show sK s r < 2 ^ 31 by omega) (show 3 < 2 ^ 31 by decide)]
  unfold jn
  by_cases c : sK s r = 3 <;> cases th s r <;> cases th s (r - 1) <;> simp [c, pv_b]
/-- the set grown down to i from r, and up to below k -/
def rng (i k : Nat) (R : Nat) : Nat := mk (fun e => decide (i ≤ e) && decide (e < k)) R
theorem rng_down {i k R : Nat} (h0 : 0 < i) (hi : i ≤ R) (hk : i ≤ k) (hkR : k ≤ R) (h : i < k) : rng i k R ||| 2 ^ (i - 1) = rng (i - 1) k R := by
  refine bit_ext (n := R) (Nat.or_lt_two_pow (mk_lt _ _) (Nat.pow_lt_pow_right (by decide) (by omega))) (mk_lt _ _) (fun r hr => ?_)
  unfold rng
  rw [Nat.testBit_or, mk_bit, mk_bit, Nat.testBit_two_pow]
  by_cases c : i - 1 = r
  · subst c
    simp [hr]
    omega
  · have e : decide (i ≤ r) = decide (i - 1 ≤ r) := decide_eq_decide.mpr (by omega)
    simp [c, e]
theorem rng_up {i k R : Nat} (hk : k < R) (hi : i ≤ k) : rng i k R ||| 2 ^ k = rng i (k + 1) R := by
  refine bit_ext (n := R) (Nat.or_lt_two_pow (mk_lt _ _) (Nat.pow_lt_pow_right (by decide) (by omega))) (mk_lt _ _) (fun r hr => ?_)
  unfold rng
  rw [Nat.testBit_or, mk_bit, mk_bit, Nat.testBit_two_pow]
  by_cases c : k = r
  · subst c
    simp [hr]
    omega
  · have e : decide (r < k) = decide (r < k + 1) := decide_eq_decide.mpr (by omega)
    simp [c, e]
theorem rng_one {r R : Nat} (hr : r < R) : rng r (r + 1) R = 2 ^ r := by
  refine bit_ext (n := R) (mk_lt _ _) (Nat.pow_lt_pow_right (by decide) hr) (fun e he => ?_)
  unfold rng
  rw [mk_bit, Nat.testBit_two_pow]
  by_cases c : r = e
  · subst c; simp [he]
  · simp [c]
    omega
/-- the whole row is a range -/
theorem grp_rng {t : ST} {s : SS} (O : okS t s) {r i k : Nat} (hr : r < tR t) (ht : th s r = true) (hi : i ≤ r) (hk : r < k) (hkR : k ≤ tR t) (hd1 : ∀ e, i < e → e ≤ r → sK s e = 3) (hd2 : ∀ e, r < e → e < k → sK s e = 3) (he1 : sK s i ≠ 3 ∨ i = 0) (he2 : k = tR t ∨ sK s k ≠ 3) : grp s r (tR t) = rng i k (tR t) := by
  have hdi : ∀ e, i ≤ e → e < k → hd (sK s) e = hd (sK s) i := by
    intro e
    induction e with
    | zero => intro h1 _; rw [show i = 0 by omega]
    | succ e ih =>
      intro h1 h2
      rcases Nat.eq_or_lt_of_le h1 with z | z
      · rw [← z]
      · have k3 : sK s (e + 1) = 3 := by
          rcases Nat.lt_or_ge r (e + 1) with y | y
          · exact hd2 _ y h2
          · exact hd1 _ z y
        rw [hd_3 (by omega) k3]
        exact ih (by omega) (by omega)
  have hii : hd (sK s) i = i := by
    rcases he1 with z | z
    · exact hd_n z
    · subst z; rfl
  have thr : ∀ e, i ≤ e → e < k → th s e = true := by
    -- the same drowned bit along the row
    have step : ∀ e, i < e → e < k → (sD s).testBit e = (sD s).testBit (e - 1) := fun e h1 h2 => by
      have k3 : sK s e = 3 := by
        rcases Nat.lt_or_ge r e with y | y
        · exact hd2 _ y h2
        · exact hd1 _ h1 y
      exact (O.2.2.2.2.2.2.1 e (by omega) k3).2.2
    have all : ∀ e, i ≤ e → e < k → (sD s).testBit e = (sD s).testBit i := by
      intro e
      induction e with
      | zero => intro h1 _; rw [show i = 0 by omega]
      | succ e ih =>
        intro h1 h2
        rcases Nat.eq_or_lt_of_le h1 with z | z
        · rw [← z]
        · rw [step (e + 1) z h2]
          exact ih (by omega) (by omega)
    intro e h1 h2
    unfold th at ht ⊢
    rw [all e h1 h2, ← all r hi hk]
    exact ht
  unfold grp rng
  refine mk_congr (fun e he => ?_)
  have er : hd (sK s) r = i := (hdi r hi hk).trans hii
  rw [er]
  by_cases c : i ≤ e ∧ e < k
  · rw [thr e c.1 c.2, (hdi e c.1 c.2).trans hii]
    simp [c.1, c.2]
  · have : hd (sK s) e ≠ i := by
      intro q
      by_cases c1 : e < i
      · have := hd_le (sK s) e
        omega
      · have ck : k ≤ e := by omega
        have kR : k < tR t := by omega
        have k3 : sK s k ≠ 3 := by rcases he2 with z | z; omega; exact z
        have h1 := hd_mono (k := sK s) ck
        rw [hd_n k3] at h1
        omega
    simp [this]
    intro _
    omega
theorem jn_eq {t : ST} {s : SS} (O : okS t s) {e : Nat} (he : e < tR t) (ht : th s e = true) : jn s e = decide (sK s e = 3) := by
  unfold jn
  by_cases c : sK s e = 3
  · have := (O.2.2.2.2.2.2.1 e he c).2.2
    have ht2 : th s (e - 1) = true := by
      unfold th at ht ⊢
      rw [← this]
      exact ht
    simp [c, ht, ht2]
  · simp [c]
theorem th_dn {t : ST} {s : SS} (O : okS t s) {e : Nat} (he : e < tR t) (c : sK s e = 3) : th s e = th s (e - 1) := by
  unfold th
  rw [(O.2.2.2.2.2.2.1 e he c).2.2]
set_option maxHeartbeats 1000000 in
theorem m46 {d : Nat} {P : PvP} {g : PvG} {h : PvH} {o r : Nat} {t : ST} {s : SS} (G : gS g o) (S : cS h o (tR t) s) (O : okS t s) (hR : tR t ≤ 8) (hr : r < tR t) (ht : th s r = true) (hP : P (some (.int (nI (grp s r (tR t))))) g h) : pv_run (d + 4) 46 [.ref o, .int (nI r), .int (nI (tR t))] g h P := by
  have hD : sD s < 256 := p8 O.2.1 hR
  have K3 : ∀ e, e < tR t → sK s e ≤ 3 := fun e he => (O.1 e he).2.2
  -- up
  have up : ∀ i, i ≤ r → (∀ e, i < e → e ≤ r → sK s e = 3) → (sK s i ≠ 3 ∨ i = 0) → ∀ n k, k + n = tR t → r < k → (∀ e, r < e → e < k → sK s e = 3) → th s (k - 1) = true → pv_E (d + 3) 46 P 41 [some (.ref o), some (.int (nI r)), some (.int (nI (tR t))), some (.int (nI (rng i k (tR t)))), some (.int (nI k))] [] 0 0 g h := by
    intro i hi hd1 he1 n
    induction n with
    | zero =>
      intro k hk hrk hd2 _
      have hk : k = tR t := hk
      rw [z46_41]
      simp only [z46_0, z46_1, z46_2, z46_3, z46_4, z46_5, z46_7, z46_9, z46_12, z46_13, z46_15, z46_18, z46_21, z46_22, z46_23, z46_25, z46_26, z46_27, z46_28, z46_29, z46_30, z46_33, z46_36, z46_37, z46_38, z46_39, z46_43, z46_44, z46_47, z46_48, z46_50, z46_53, z46_56, z46_57, z46_58, z46_60, z46_61, z46_62, z46_63, z46_66, z46_69, z46_70, pv_catN, pv_cat1, pv_cat2, pv_cat3, pv_catL, Option.toList, List.nil_append, List.cons_append, List.append_nil, pv_rfS, pn_i, pn_r, pn_n, pn_o, true_and, and_true, Nat.le_refl, and_self, true_implies, false_implies, not_true_eq_false, not_false_eq_true, pv_b0, pv_b01, pv_bn0, pv_b1, Bool.false_eq_true, Bool.true_eq_false, Bool.not_false, Bool.not_true, pv_bT, pv_bF, eq_self, nI_le' (show tR t < 2 ^ 31 by omega) (show k < 2 ^ 31 by omega), show (tR t ≤ k) = True from eq_true (by omega)]
      rw [grp_rng O hr ht hi hrk (by omega) hd1 hd2 he1 (Or.inl hk)] at hP
      exact hP
    | succ n ih =>
      intro k hk hrk hd2 hthk
      have hkR : k < tR t := by omega
      rw [z46_41]
      simp only [z46_0, z46_1, z46_2, z46_3, z46_4, z46_5, z46_7, z46_9, z46_12, z46_13, z46_15, z46_18, z46_21, z46_22, z46_23, z46_25, z46_26, z46_27, z46_28, z46_29, z46_30, z46_33, z46_36, z46_37, z46_38, z46_39, z46_43, z46_44, z46_47, z46_48, z46_50, z46_53, z46_56, z46_57, z46_58, z46_60, z46_61, z46_62, z46_63, z46_66, z46_69, z46_70, pv_catN, pv_cat1, pv_cat2, pv_cat3, pv_catL, Option.toList, List.nil_append, List.cons_append, List.append_nil, pv_rfS, pn_i, pn_r, pn_n, pn_o, true_and, and_true, Nat.le_refl, and_self, true_implies, false_implies, not_true_eq_false, not_false_eq_true, pv_b0, pv_b01, pv_bn0, pv_b1, Bool.false_eq_true, Bool.true_eq_false, Bool.not_false, Bool.not_true, pv_bT, pv_bF, eq_self, G.1, nI_le' (show tR t < 2 ^ 31 by omega) (show k < 2 ^ 31 by omega), show (tR t ≤ k) = False from eq_false (by omega), m47 G S hD hR hkR (by omega) (K3 k hkR), shlN (show k < 31 by omega), fa_or, nI_1, rng_up hkR (show i ≤ k by omega)]
      have ej : sK s k = 3 → jn s k = true := fun c => by
        rw [jn_eq O hkR (by rw [th_dn O hkR c]; exact hthk)]
        exact decide_eq_true c
      refine br (fun c => ?_) (fun c => ?_)
      · have k3 : sK s k ≠ 3 := fun q => by rw [ej q] at c; cases c
        rw [grp_rng O hr ht hi hrk (by omega) hd1 hd2 he1 (Or.inr k3)] at hP
        exact hP
      · have k3 : sK s k = 3 := by
          unfold jn at c
          by_cases q : sK s k = 3
          · exact q
          · simp [q] at c
        refine ih (k + 1) (by omega) (by omega) (fun e h1 h2 => ?_) ?_
        · rcases Nat.lt_or_ge e k with y | y
          · exact hd2 e h1 y
          · obtain rfl : e = k := by omega
            exact k3
        · show th s (k + 1 - 1) = true
          rw [Nat.add_sub_cancel, th_dn O hkR k3]
          exact hthk
  -- down
  have down : ∀ i, i ≤ r → (∀ e, i < e → e ≤ r → sK s e = 3) → th s i = true → pv_E (d + 3) 46 P 7 [some (.ref o), some (.int (nI r)), some (.int (nI (tR t))), some (.int (nI (rng i (r + 1) (tR t)))), some (.int (nI i))] [] 0 0 g h := by
    intro i
    induction i with
    | zero =>
      intro hi hd1 hthi
      rw [z46_7]
      simp only [z46_0, z46_1, z46_2, z46_3, z46_4, z46_5, z46_9, z46_12, z46_13, z46_15, z46_18, z46_21, z46_22, z46_23, z46_25, z46_26, z46_27, z46_28, z46_29, z46_30, z46_33, z46_36, z46_37, z46_38, z46_39, z46_43, z46_44, z46_47, z46_48, z46_50, z46_53, z46_56, z46_57, z46_58, z46_60, z46_61, z46_62, z46_63, z46_66, z46_69, z46_70, pv_catN, pv_cat1, pv_cat2, pv_cat3, pv_catL, Option.toList, List.nil_append, List.cons_append, List.append_nil, pv_rfS, pn_i, pn_r, pn_n, pn_o, true_and, and_true, Nat.le_refl, and_self, true_implies, false_implies, not_true_eq_false, not_false_eq_true, pv_b0, pv_b01, pv_bn0, pv_b1, Bool.false_eq_true, Bool.true_eq_false, Bool.not_false, Bool.not_true, pv_bT, pv_bF, eq_self, show (nI 0 ≤ (0 : Int32)) = True from eq_true (by decide), nI_1]
      exact up 0 hi hd1 (Or.inr rfl) (tR t - (r + 1)) (r + 1) (by omega) (by omega) (fun e h1 h2 => by omega) (by rw [Nat.add_sub_cancel]; exact ht)
    | succ i ih =>
      intro hi hd1 hthi
      have hiR : i + 1 < tR t := by omega
      have e1 : nI (i + 1) - 1 = nI i := nI_pred i
      have e2 : nI (i + 1) + (-1) = nI i := pk_m1 i
      have ejn := jn_eq O hiR hthi
      rw [z46_7]
      simp only [z46_0, z46_1, z46_2, z46_3, z46_4, z46_5, z46_9, z46_12, z46_13, z46_15, z46_18, z46_21, z46_22, z46_23, z46_25, z46_26, z46_27, z46_28, z46_29, z46_30, z46_33, z46_36, z46_37, z46_38, z46_39, z46_43, z46_44, z46_47, z46_48, z46_50, z46_53, z46_56, z46_57, z46_58, z46_60, z46_61, z46_62, z46_63, z46_66, z46_69, z46_70, pv_catN, pv_cat1, pv_cat2, pv_cat3, pv_catL, Option.toList, List.nil_append, List.cons_append, List.append_nil, pv_rfS, pn_i, pn_r, pn_n, pn_o, true_and, and_true, Nat.le_refl, and_self, true_implies, false_implies, not_true_eq_false, not_false_eq_true, pv_b0, pv_b01, pv_bn0, pv_b1, Bool.false_eq_true, Bool.true_eq_false, Bool.not_false, Bool.not_true, pv_bT, pv_bF, eq_self, G.1, show (nI (i + 1) ≤ (0 : Int32)) = False from eq_false (by rw [show (0 : Int32) = nI 0 from rfl, nI_le' (by omega) (by decide)]; omega), m47 G S hD hR hiR (by omega) (K3 _ hiR), e1, e2, shlN (show i < 31 by omega), fa_or, nI_1]
      refine br (fun c => ?_) (fun c => ?_)
      · have k3 : sK s (i + 1) ≠ 3 := fun q => by rw [ejn] at c; simp [q] at c
        exact up (i + 1) hi hd1 (Or.inl k3) (tR t - (r + 1)) (r + 1) (by omega) (by omega) (fun e h1 h2 => by omega) (by rw [Nat.add_sub_cancel]; exact ht)
      · have k3 : sK s (i + 1) = 3 := by
          rw [ejn] at c
          exact of_decide_eq_true c
        have er := rng_down (i := i + 1) (k := r + 1) (R := tR t) (by omega) (by omega) (by omega) (by omega) (by omega)
        rw [show i + 1 - 1 = i by omega] at er
        rw [er]
        refine ih (by omega) (fun e h1 h2 => ?_) ?_
        · rcases Nat.eq_or_lt_of_le (show i + 1 ≤ e by omega) with y | y
          · rw [← y]; exact k3
          · exact hd1 e y h2
        · rw [← hthi, th_dn O hiR k3]
          rfl
  simp only [e46, z46_0, z46_1, z46_2, z46_3, z46_4, z46_5, pv_catN, pv_cat1, pv_cat2, pv_cat3, pv_catL, Option.toList, List.nil_append, List.cons_append, List.append_nil, pv_rfS, pn_i, pn_r, pn_n, pn_o, true_and, and_true, Nat.le_refl, and_self, true_implies, false_implies, not_true_eq_false, not_false_eq_true, pv_b0, pv_b01, pv_bn0, pv_b1, Bool.false_eq_true, Bool.true_eq_false, Bool.not_false, Bool.not_true, pv_bT, pv_bF, eq_self, shlN (show r < 31 by omega)]
  have := down r (Nat.le_refl _) (fun e h1 h2 => by omega) ht
  rw [rng_one hr] at this
  exact this
theorem m131 {d : Nat} {P : PvP} {g : PvG} {h : PvH} {x : SX} (G : gM g) (M : cD h x) (O : okX x) (hP : ∀ h' : PvH, (∀ o, o ≠ 125 → h' o = h o) → (∀ r, r < tR (xT x) → h' 125 r = nI (hd (sK (xS x)) r)) → P none g h') : pv_run (d + 1) 131 [.ref 102] g h P := by
  have hR := O.R
  have loop : ∀ n r (h1 : PvH), r + n = tR (xT x) → (∀ o, o ≠ 125 → h1 o = h o) → (∀ e, e < r → h1 125 e = nI (hd (sK (xS x)) e)) → pv_E d 131 P 2 [some (.ref 102), some (.int (nI r))] [] 0 0 g h1 := by
    intro n
    induction n with
    | zero =>
      intro r h1 hr f1 f2
      have hr : r = tR (xT x) := hr
      subst hr
      rw [z131_2]
      simp only [z131_0, z131_1, z131_3, z131_4, z131_7, z131_10, z131_11, z131_14, z131_15, z131_16, z131_19, z131_20, z131_21, z131_22, z131_25, z131_26, z131_29, z131_30, z131_31, z131_32, z131_33, z131_36, z131_37, z131_38, z131_41, z131_44, pv_catN, pv_cat1, pv_cat2, pv_cat3, pv_catL, Option.toList, List.nil_append, List.cons_append, List.append_nil, pv_rfS, pn_i, pn_r, pn_n, pn_o, true_and, and_true, Nat.le_refl, and_self, true_implies, false_implies, not_true_eq_false, not_false_eq_true, pv_b0, pv_b01, pv_bn0, pv_b1, Bool.false_eq_true, Bool.true_eq_false, Bool.not_false, Bool.not_true, pv_bT, pv_bF, eq_self, G.o, f1 102 (by omega), M.M.R, nI_le' (show tR (xT x) < 2 ^ 31 by omega) (show tR (xT x) < 2 ^ 31 by omega)]
      exact hP h1 f1 f2
    | succ n ih =>
      intro r h1 hr f1 f2
      have hrR : r < tR (xT x) := by omega
      have hk := O.K3 r hrR
      have fin : ∀ v : Int32, v = nI (hd (sK (xS x)) r) → pv_E d 131 P 2 [some (.ref 102), some (.int (nI (r + 1)))] [] 0 0 g (pv_st h1 125 r v) := by
        intro v hv
        refine ih (r + 1) _ (by omega) (fun o ho => by rw [st_o ho, f1 o ho]) (fun e he => ?_)
        by_cases c : e = r
        · subst c; rw [st_at]; exact hv
        · rw [st_k c]; exact f2 e (by omega)
      rw [z131_2]
      simp only [z131_0, z131_1, z131_3, z131_4, z131_7, z131_10, z131_11, z131_14, z131_15, z131_16, z131_19, z131_20, z131_21, z131_22, z131_25, z131_26, z131_33, z131_36, z131_37, z131_38, z131_41, z131_44, pv_catN, pv_cat1, pv_cat2, pv_cat3, pv_catL, Option.toList, List.nil_append, List.cons_append, List.append_nil, pv_rfS, pn_i, pn_r, pn_n, pn_o, true_and, and_true, Nat.le_refl, and_self, true_implies, false_implies, not_true_eq_false, not_false_eq_true, pv_b0, pv_b01, pv_bn0, pv_b1, Bool.false_eq_true, Bool.true_eq_false, Bool.not_false, Bool.not_true, pv_bT, pv_bF, eq_self, G.o, f1 102 (by omega), f1 108 (by omega), M.M.R, nI_le' (show tR (xT x) < 2 ^ 31 by omega) (show r < 2 ^ 31 by omega), show (tR (xT x) ≤ r) = False from eq_false (by omega), G.r10, G.t108, G.r35, G.t125, vp_nI (show r < 8 by omega) (show 8 < 2 ^ 31 by decide), nI_clamp (show r < 2 ^ 31 by omega), M.M.K r hrR, show (3 : Int32) = nI 3 from rfl, nI_eq' (show sK (xS x) r < 2 ^ 31 by omega) (show 3 < 2 ^ 31 by decide), nI_1]
      refine ⟨fun c => fin _ (by rw [hd_n c]), fun c => ?_⟩
      have c := Classical.byContradiction c
      have h0 := ((O.S.2.2.2.2.2.2.1) r hrR c).1
      have e1 : nI r - 1 = nI (r - 1) := pk_sub (b := 1) h0
      simp only [z131_0, z131_1, z131_3, z131_4, z131_7, z131_10, z131_11, z131_14, z131_15, z131_16, z131_19, z131_20, z131_21, z131_22, z131_25, z131_26, z131_29, z131_30, z131_31, z131_32, z131_33, z131_36, z131_37, z131_38, z131_41, z131_44, pv_catN, pv_cat1, pv_cat2, pv_cat3, pv_catL, Option.toList, List.nil_append, List.cons_append, List.append_nil, pv_rfS, pn_i, pn_r, pn_n, pn_o, true_and, and_true, Nat.le_refl, and_self, true_implies, false_implies, not_true_eq_false, not_false_eq_true, pv_b0, pv_b01, pv_bn0, pv_b1, Bool.false_eq_true, Bool.true_eq_false, Bool.not_false, Bool.not_true, pv_bT, pv_bF, eq_self, e1, G.t125, vp_nI (show r - 1 < 8 by omega) (show 8 < 2 ^ 31 by decide), nI_clamp (show r - 1 < 2 ^ 31 by omega), vp_nI (show r < 8 by omega) (show 8 < 2 ^ 31 by decide), nI_clamp (show r < 2 ^ 31 by omega), nI_1]
      exact fin _ (by rw [f2 (r - 1) (by omega), hd_3 h0 c])
  simp only [e131, z131_0, z131_1, pv_catN, pv_cat1, pv_cat2, pv_cat3, pv_catL, Option.toList, List.nil_append, List.cons_append, List.append_nil, pv_rfS, pn_i, pn_r, pn_n, pn_o, true_and, and_true, Nat.le_refl, and_self, true_implies, false_implies, not_true_eq_false, not_false_eq_true, pv_b0, pv_b01, pv_bn0, pv_b1, Bool.false_eq_true, Bool.true_eq_false, Bool.not_false, Bool.not_true, pv_bT, pv_bF, eq_self]
  exact loop (tR (xT x)) 0 h (Nat.zero_add _) (fun _ _ => rfl) (fun e he => absurd he (Nat.not_lt_zero e))
theorem m132 {d : Nat} {P : PvP} {g : PvG} {h : PvH} {x : SX} (G : gM g) (M : cD h x) (O : okX x) {r : Nat} (hr : r < tR (xT x)) (hP : ∀ h' : PvH, (∀ o, o ≠ 125 → h' o = h o) → P (some (.int (nI (grp (xS x) r (tR (xT x)))))) g h') : pv_run (d + 2) 132 [.ref 102, .int (nI r)] g h P := by
  have hR := O.R
  simp only [e132, z132_0, pv_catN, pv_cat1, pv_cat2, pv_cat3, pv_catL, Option.toList, List.nil_append, List.cons_append, List.append_nil, pv_rfS, pn_i, pn_r, pn_n, pn_o, true_and, and_true, Nat.le_refl, and_self, true_implies, false_implies, not_true_eq_false, not_false_eq_true, pv_b0, pv_b01, pv_bn0, pv_b1, Bool.false_eq_true, Bool.true_eq_false, Bool.not_false, Bool.not_true, pv_bT, pv_bF, eq_self]
  rw [z132_1 (by simp [pv_cat]) (by decide)]
  refine ⟨G.o, m131 G M O fun h1 f1 f2 => ?_⟩
  have M1 : cD h1 x := M.fr (fun o h1 h2 => f1 o (by omega)) (fun k _ => by rw [f1 102 (by omega)])
  have hh : ∀ e, e < tR (xT x) → hd (sK (xS x)) e < 2 ^ 31 := fun e he => by have := hd_le (sK (xS x)) e; omega
  have loop : ∀ n e, e + n = tR (xT x) → pv_E (d + 1) 132 P 8 [some (.ref 102), some (.int (nI r)), some (.int (nI (mk (fun e => th (xS x) e && decide (hd (sK (xS x)) e = hd (sK (xS x)) r)) e))), some (.int (nI e))] [] 0 0 g h1 := by
    intro n
    induction n with
    | zero =>
      intro e he
      have he : e = tR (xT x) := he
      subst he
      rw [z132_8]
      simp only [z132_0, z132_1, z132_4, z132_5, z132_6, z132_7, z132_9, z132_10, z132_13, z132_16, z132_17, z132_18, z132_21, z132_22, z132_23, z132_26, z132_27, z132_30, z132_31, z132_32, z132_33, z132_36, z132_37, z132_38, z132_41, z132_42, z132_43, z132_44, z132_47, z132_48, z132_49, z132_50, z132_53, z132_56, z132_57, pv_catN, pv_cat1, pv_cat2, pv_cat3, pv_catL, Option.toList, List.nil_append, List.cons_append, List.append_nil, pv_rfS, pn_i, pn_r, pn_n, pn_o, true_and, and_true, Nat.le_refl, and_self, true_implies, false_implies, not_true_eq_false, not_false_eq_true, pv_b0, pv_b01, pv_bn0, pv_b1, Bool.false_eq_true, Bool.true_eq_false, Bool.not_false, Bool.not_true, pv_bT, pv_bF, eq_self, G.o, M1.M.R, nI_le' (show tR (xT x) < 2 ^ 31 by omega) (show tR (xT x) < 2 ^ 31 by omega)]
      exact hP h1 f1
    | succ n ih =>
      intro e he
      have heR : e < tR (xT x) := by omega
      have q : mk (fun e => th (xS x) e && decide (hd (sK (xS x)) e = hd (sK (xS x)) r)) (e + 1) = mk (fun e => th (xS x) e && decide (hd (sK (xS x)) e = hd (sK (xS x)) r)) e ||| (if th (xS x) e && decide (hd (sK (xS x)) e = hd (sK (xS x)) r) then 2 ^ e else 0) := rfl
      have := ih (e + 1) (by omega)
      rw [q] at this
      rw [z132_8]
      simp only [z132_0, z132_1, z132_4, z132_5, z132_6, z132_7, z132_9, z132_10, z132_13, z132_16, z132_17, z132_18, z132_21, z132_22, z132_23, z132_26, z132_27, z132_30, z132_31, z132_32, z132_33, z132_36, z132_37, z132_38, z132_41, z132_42, z132_43, z132_44, z132_47, z132_48, z132_49, z132_50, z132_53, z132_56, z132_57, pv_catN, pv_cat1, pv_cat2, pv_cat3, pv_catL, Option.toList, List.nil_append, List.cons_append, List.append_nil, pv_rfS, pn_i, pn_r, pn_n, pn_o, true_and, and_true, Nat.le_refl, and_self, true_implies, false_implies, not_true_eq_false, not_false_eq_true, pv_b0, pv_b01, pv_bn0, pv_b1, Bool.false_eq_true, Bool.true_eq_false, Bool.not_false, Bool.not_true, pv_bT, pv_bF, eq_self, G.o, M1.M.R, nI_le' (show tR (xT x) < 2 ^ 31 by omega) (show e < 2 ^ 31 by omega), show (tR (xT x) ≤ e) = False from eq_false (by omega), G.r12, G.t110, G.r35, G.t125, vp_nI (show e < 8 by omega) (show 8 < 2 ^ 31 by decide), nI_clamp (show e < 2 ^ 31 by omega), vp_nI (show r < 8 by omega) (show 8 < 2 ^ 31 by decide), nI_clamp (show r < 2 ^ 31 by omega), M1.M.D e heR, f2 e heR, f2 r hr, nI_eq' (hh e heR) (hh r hr), shlN (show e < 31 by omega), fa_or, nI_1]
      by_cases c1 : (sD (xS x)).testBit e = true <;> by_cases c2 : hd (sK (xS x)) e = hd (sK (xS x)) r <;> simpa [c1, c2, th] using this
  simp only [z132_4, z132_5, z132_6, z132_7, pv_catN, pv_cat1, pv_cat2, pv_cat3, pv_catL, Option.toList, List.nil_append, List.cons_append, List.append_nil, pv_rfS, pn_i, pn_r, pn_n, pn_o, true_and, and_true, Nat.le_refl, and_self, true_implies, false_implies, not_true_eq_false, not_false_eq_true, pv_b0, pv_b01, pv_bn0, pv_b1, Bool.false_eq_true, Bool.true_eq_false, Bool.not_false, Bool.not_true, pv_bT, pv_bF, eq_self]
  exact loop (tR (xT x)) 0 (Nat.zero_add _)
def togA (x : SX) (a : Int32) : Int32 := if inr a (tR (xT x)) then (if th (xS x) a.toNatClampNeg then nI (grp (xS x) a.toNatClampNeg (tR (xT x))) else -3) else -1
theorem oC69 {x : SX} (O : okX x) (a : Int32) : OpC 5 69 [.int a] x (.int (togA x a)) x := by
  intro d P g h ⟨rt, tt, q, G, C⟩ hP
  have hP := hP g h ⟨rt, tt, q, G, C⟩ FG.rf FC.rf
  have hR := O.R
  unfold togA at hP
  cases hI : inr a (tR (xT x)) with
  | false =>
    simp only [e69, z69_0, z69_1, z69_2, z69_5, z69_8, z69_9, z69_10, z69_11, z69_14, z69_18, z69_21, z69_23, z69_24, z69_25, z69_28, z69_29, z69_30, z69_33, z69_39, pv_catN, pv_cat1, pv_cat2, pv_cat3, pv_catL, Option.toList, List.nil_append, List.cons_append, List.append_nil, pv_rfS, pn_i, pn_r, pn_n, pn_o, true_and, and_true, Nat.le_refl, and_self, true_implies, false_implies, not_true_eq_false, not_false_eq_true, pv_b0, pv_b01, pv_bn0, pv_b1, Bool.false_eq_true, Bool.true_eq_false, Bool.not_false, Bool.not_true, pv_bT, pv_bF, eq_self, G.o0, m86 G C O, hI]
    simpa [hI] using hP
  | true =>
    obtain ⟨r, hr, rfl⟩ := inr_t hI
    have hc := nI_clamp (show r < 2 ^ 31 by omega)
    rw [if_pos hI, hc] at hP
    simp only [e69, z69_0, z69_1, z69_2, z69_5, z69_8, z69_9, z69_10, z69_11, z69_14, z69_15, z69_18, z69_21, z69_23, z69_24, z69_25, z69_28, z69_29, z69_30, z69_33, z69_39, pv_catN, pv_cat1, pv_cat2, pv_cat3, pv_catL, Option.toList, List.nil_append, List.cons_append, List.append_nil, pv_rfS, pn_i, pn_r, pn_n, pn_o, true_and, and_true, Nat.le_refl, and_self, true_implies, false_implies, not_true_eq_false, not_false_eq_true, pv_b0, pv_b01, pv_bn0, pv_b1, Bool.false_eq_true, Bool.true_eq_false, Bool.not_false, Bool.not_true, pv_bT, pv_bF, eq_self, G.o0, G.S20.1, m86 G C O, hI, G.r0_3, G.r0_4, G.Tr.1, m42 G.S20 C.S O.D (show r < 32 by omega), C.T.2.2.1]
    refine ⟨fun c => ?_, fun c => ?_⟩
    · have c : th (xS x) r = true := by simpa using c
      rw [if_pos c] at hP
      rw [z69_36 (by simp [pv_cat]) (by decide)]
      refine ⟨G.S20.1, m46 G.S20 C.S O.S hR hr c ?_⟩
      simp only [z69_0, z69_1, z69_2, z69_5, z69_8, z69_9, z69_10, z69_11, z69_14, z69_15, z69_18, z69_21, z69_23, z69_24, z69_25, z69_28, z69_29, z69_30, z69_33, z69_36, z69_39, pv_catN, pv_cat1, pv_cat2, pv_cat3, pv_catL, Option.toList, List.nil_append, List.cons_append, List.append_nil, pv_rfS, pn_i, pn_r, pn_n, pn_o, true_and, and_true, Nat.le_refl, and_self, true_implies, false_implies, not_true_eq_false, not_false_eq_true, pv_b0, pv_b01, pv_bn0, pv_b1, Bool.false_eq_true, Bool.true_eq_false, Bool.not_false, Bool.not_true, pv_bT, pv_bF, eq_self]
      exact hP
    · have c : th (xS x) r = false := Classical.byContradiction c
      rw [c] at hP
      exact hP
theorem oM134 {x : SX} (O : okX x) (a : Int32) : OpM 3 134 [.int a] x (.int (togA x a)) x := by
  intro d P g h ⟨G, M0⟩ hP
  have M := M0.t0
  have hR := O.R
  unfold togA at hP
  cases hI : inr a (tR (xT x)) with
  | false =>
    have hP := hP _ ⟨G, M⟩ (FM.rf.st (by omega))
    simp only [e134, z134_0, z134_1, z134_2, z134_5, z134_6, z134_7, z134_10, z134_13, z134_14, z134_15, z134_16, z134_21, z134_24, z134_26, z134_29, z134_30, z134_34, pv_catN, pv_cat1, pv_cat2, pv_cat3, pv_catL, Option.toList, List.nil_append, List.cons_append, List.append_nil, pv_rfS, pn_i, pn_r, pn_n, pn_o, true_and, and_true, Nat.le_refl, and_self, true_implies, false_implies, not_true_eq_false, not_false_eq_true, pv_b0, pv_b01, pv_bn0, pv_b1, Bool.false_eq_true, Bool.true_eq_false, Bool.not_false, Bool.not_true, pv_bT, pv_bF, eq_self, G.o, m102 G M O, hI]
    simpa [hI] using hP
  | true =>
    obtain ⟨r, hr, rfl⟩ := inr_t hI
    have hc := nI_clamp (show r < 2 ^ 31 by omega)
    rw [if_pos hI, hc] at hP
    simp only [e134, z134_0, z134_1, z134_2, z134_5, z134_6, z134_7, z134_10, z134_13, z134_14, z134_15, z134_16, z134_19, z134_20, z134_21, z134_24, z134_26, z134_29, z134_30, z134_34, pv_catN, pv_cat1, pv_cat2, pv_cat3, pv_catL, Option.toList, List.nil_append, List.cons_append, List.append_nil, pv_rfS, pn_i, pn_r, pn_n, pn_o, true_and, and_true, Nat.le_refl, and_self, true_implies, false_implies, not_true_eq_false, not_false_eq_true, pv_b0, pv_b01, pv_bn0, pv_b1, Bool.false_eq_true, Bool.true_eq_false, Bool.not_false, Bool.not_true, pv_bT, pv_bF, eq_self, G.o, m102 G M O, hI, G.r12, G.t110, vp_nI (show r < 8 by omega) (show 8 < 2 ^ 31 by decide), hc, M.M.D r hr]
    refine ⟨fun c => ?_, fun c => ?_⟩
    · have ct : th (xS x) r = true := by unfold th; rw [c]; rfl
      rw [if_pos ct] at hP
      rw [z134_31 (by simp [pv_cat]) (by decide)]
      generalize hh : pv_st h 102 0 0 = h0 at M
      have F0 : FM h h0 := hh ▸ FM.rf.st (by omega)
      refine ⟨G.o, m132 G M O hr fun h1 f1 => ?_⟩
      simp only [z134_0, z134_1, z134_2, z134_5, z134_6, z134_7, z134_10, z134_13, z134_14, z134_15, z134_16, z134_19, z134_20, z134_21, z134_24, z134_26, z134_29, z134_30, z134_31, z134_34, pv_catN, pv_cat1, pv_cat2, pv_cat3, pv_catL, Option.toList, List.nil_append, List.cons_append, List.append_nil, pv_rfS, pn_i, pn_r, pn_n, pn_o, true_and, and_true, Nat.le_refl, and_self, true_implies, false_implies, not_true_eq_false, not_false_eq_true, pv_b0, pv_b01, pv_bn0, pv_b1, Bool.false_eq_true, Bool.true_eq_false, Bool.not_false, Bool.not_true, pv_bT, pv_bF, eq_self]
      exact hP h1 ⟨G, M.fr (fun o h1 h2 => f1 o (by omega)) (fun k _ => by rw [f1 102 (by omega)])⟩ (fun o ho => by rw [f1 o (by omega)]; exact F0 o ho)
    · have c : (sD (xS x)).testBit r = true := by simpa using c
      have ct : th (xS x) r = false := by unfold th; rw [c]; rfl
      rw [ct] at hP
      exact hP _ ⟨G, M⟩ (FM.rf.st (by omega))
