/-! plans, the model: the whole search; most, least, planAt of the model -/
theorem neg1 : ((-1 : Int32) < 0) = True := eq_true (by decide)
theorem mSEN1 {g : PvG} {x : SX} {P : PvP} {d0 d n : Nat} (G : gM g) (O : okX x) (hd3 : d ≤ 3) (ih : ∀ m, n = m + 1 → SEN g x P d0 d m) : SEN g x P d0 d n := by
  intro D φ δ sp row b h hDn E S B hb hs hφ hC w4 w5 w6
  have lD0 : (nI D < 0) = False := eq_false (by rw [show (0 : Int32) = nI 0 from rfl, nI_lt' (by omega) (by decide)]; omega)
  simp only [z145_32, z145_33, z145_36, z145_37, z145_48, z145_49, z145_53, z145_55, z145_56, z145_57, z145_59, pv_catN, pv_cat1, pv_cat2, pv_cat3, pv_catL, Option.toList, List.nil_append, List.cons_append, List.append_nil, pv_rfS, pn_i, pn_r, pn_n, pn_o, true_and, and_true, Nat.le_refl, and_self, true_implies, false_implies, not_true_eq_false, not_false_eq_true, pv_b0, pv_b01, pv_bn0, pv_b1, Bool.false_eq_true, Bool.true_eq_false, Bool.not_false, Bool.not_true, pv_bT, pv_bF, eq_self, lD0, i10]
  refine mL G O hd3 ih hDn hs hφ (tR (xT x)) 0 φ δ b h (Nat.zero_add _) E S B hb ⟨fun ρ hρ => ⟨hφ ρ hρ, Nat.le_refl _, fun _ => rfl⟩, fun ρ _ => ⟨rfl, rfl⟩, fun ρ hρ => absurd hρ (Nat.not_lt_zero _)⟩ (fun h' w4 w5 w6 v4 v5 v6 F' S' B' => ?_) _ _
  simp only [z141_12, z141_13, z141_148, z141_149, pv_catN, pv_cat1, pv_cat2, pv_cat3, pv_catL, Option.toList, List.nil_append, List.cons_append, List.append_nil, pv_rfS, pn_i, pn_r, pn_n, pn_o, true_and, and_true, Nat.le_refl, and_self, true_implies, false_implies, not_true_eq_false, not_false_eq_true, pv_b0, pv_b01, pv_bn0, pv_b1, Bool.false_eq_true, Bool.true_eq_false, Bool.not_false, Bool.not_true, pv_bT, pv_bF, eq_self, m1z, neg1]
  refine ⟨Or.inl trivial, ?_⟩
  show pv_E (d0 + 3) 145 P 45 _ _ 0 0 g h'
  simp only [z145_45, z145_52, z145_53, z145_55, z145_56, z145_57, z145_59, z145_62, z145_65, z145_171, pv_catN, pv_cat1, pv_cat2, pv_cat3, pv_catL, Option.toList, List.nil_append, List.cons_append, List.append_nil, pv_rfS, pn_i, pn_r, pn_n, pn_o, true_and, and_true, Nat.le_refl, and_self, true_implies, false_implies, not_true_eq_false, not_false_eq_true, pv_b0, pv_b01, pv_bn0, pv_b1, Bool.false_eq_true, Bool.true_eq_false, Bool.not_false, Bool.not_true, pv_bT, pv_bF, eq_self, pm1]
  rw [rk_rp] at B'
  exact hC h' _ _ _ F' B'
theorem mSEN {g : PvG} {x : SX} {P : PvP} {d0 d : Nat} (G : gM g) (O : okX x) (hd3 : d ≤ 3) : ∀ n, SEN g x P d0 d n := by
  intro n
  induction n with
  | zero => exact mSEN1 G O hd3 (fun m e => absurd e (by omega))
  | succ n ih =>
    refine mSEN1 G O hd3 (fun m e => ?_)
    have : m = n := by omega
    subst this
    exact ih
theorem m145 {d0 : Nat} {P : PvP} {g : PvG} {h : PvH} {x : SX} (G : gM g) (M : cD h x) (O : okX x) {e : Nat} (he1 : 1 ≤ e) (he3 : e ≤ 3) (hP : ∀ h' : PvH, FM h h' → cD h' x → mB h' x (planB x e) → P none g h') : pv_run (d0 + 4) 145 [.ref 102, .int (nI e)] g h P := by
  have hR := O.R
  obtain ⟨n, rfl⟩ : ∃ n, e = n + 1 := ⟨e - 1, by omega⟩
  have v0 : vp_in 0 4 = True := vp_nI (n := 0) (by decide) (by decide)
  have c0 : (0 : Int32).toNatClampNeg = 0 := rfl
  simp only [e145, z145_0, pv_catN, pv_cat1, pv_cat2, pv_cat3, pv_catL, Option.toList, List.nil_append, List.cons_append, List.append_nil, pv_rfS, pn_i, pn_r, pn_n, pn_o, true_and, and_true, Nat.le_refl, and_self, true_implies, false_implies, not_true_eq_false, not_false_eq_true, pv_b0, pv_b01, pv_bn0, pv_b1, Bool.false_eq_true, Bool.true_eq_false, Bool.not_false, Bool.not_true, pv_bT, pv_bF, eq_self]
  rw [z145_1 (by simp [pv_cat, Value.category]) (by decide)]
  refine ⟨G.o, m131 G M O fun h1 f1 hh => ?_⟩
  have M1 : cD h1 x := M.fr (fun o a b => f1 o (by omega)) (fun k _ => by rw [f1 102 (by omega)])
  simp only [z145_4, z145_5, z145_7, z145_10, z145_11, z145_13, z145_16, z145_17, z145_18, z145_19, z145_20, z145_21, z145_24, z145_25, z145_26, z145_27, z145_28, pv_catN, pv_cat1, pv_cat2, pv_cat3, pv_catL, Option.toList, List.nil_append, List.cons_append, List.append_nil, pv_rfS, pn_i, pn_r, pn_n, pn_o, true_and, and_true, Nat.le_refl, and_self, true_implies, false_implies, not_true_eq_false, not_false_eq_true, pv_b0, pv_b01, pv_bn0, pv_b1, Bool.false_eq_true, Bool.true_eq_false, Bool.not_false, Bool.not_true, pv_bT, pv_bF, eq_self, G.o, G.r31, G.t123, v0, c0]
  generalize hh2 : pv_st (pv_st (pv_st h1 102 32 (-9)) 102 33 99999) 123 0 0 = h2
  have f2 : ∀ o, o ≠ 102 → o ≠ 123 → h2 o = h1 o := fun o a b => by rw [← hh2, st_o b, st_o a, st_o a]
  have g2 : ∀ k, k ≠ 32 → k ≠ 33 → h2 102 k = h1 102 k := fun k a b => by rw [← hh2, st_o (by omega), st_k b, st_k a]
  have M2 : cD h2 x := M1.fr (fun o a b => f2 o (by omega) (by omega)) (fun k hk => g2 k (by omega) (by omega))
  have F0 : ∀ h : PvH, mF h x 0 (sP (xS x)) := fun h => ⟨fun _ e he => by
    unfold rAt
    split
    · exact sP_hd O.S e he
    · rfl, fun z => absurd z (Nat.lt_irrefl 0)⟩
  rw [z145_29 (by simp [pv_cat, Value.category]) (by decide)]
  refine ⟨G.o, m142 (D := 0) (φ := sP (xS x)) G M2 O (by omega) (F0 h2) (fun _ => rfl) fun h3 f3 g3 _ S3 z3 => ?_⟩
  obtain ⟨G3, V3⟩ := z3 rfl
  have M3 : cD h3 x := M2.fr (fun o a b => f3 o (by omega) (by omega) (by omega)) (fun k hk => by rw [f3 102 (by omega) (by omega) (by omega)])
  have e123 : h3 123 0 = nI 0 := by
    rw [f3 123 (by omega) (by omega) (by omega), ← hh2, st_at]
    rfl
  have E3 : ENf h3 x 0 (sP (xS x)) (fun _ => 0) 0 (sP (xS x)) := ⟨M3, fun e he => by rw [f3 125 (by omega) (by omega) (by omega), f2 125 (by omega) (by omega)]; exact hh e he, G3, V3, e123, F0 h3, fun z => absurd z (Nat.lt_irrefl 0)⟩
  have B3 : mB h3 x (0, 0, sP (xS x)) := by
    refine ⟨?_, fun z => absurd z (Nat.lt_irrefl 0)⟩
    rw [f3 102 (by omega) (by omega) (by omega), ← hh2, st_o (by omega), st_k (by omega), st_at]
    rfl
  have := mSEN (P := P) (d0 := d0) (d := n + 1) G O he3 n 0 (sP (xS x)) (fun _ => 0) 0 (sP (xS x)) (0, 0, sP (xS x)) h3 (by omega) E3 S3 B3 ⟨Nat.zero_le _, Nat.zero_le _⟩ (by omega) (fun ρ hρ => (O.S.1 ρ hρ).1) (fun h' w4 w5 w6 F B => ?_) none none none
  · exact this
  · simp only [z145_32, z145_33, z145_174, pv_catN, pv_cat1, pv_cat2, pv_cat3, pv_catL, Option.toList, List.nil_append, List.cons_append, List.append_nil, pv_rfS, pn_i, pn_r, pn_n, pn_o, true_and, and_true, Nat.le_refl, and_self, true_implies, false_implies, not_true_eq_false, not_false_eq_true, pv_b0, pv_b01, pv_bn0, pv_b1, Bool.false_eq_true, Bool.true_eq_false, Bool.not_false, Bool.not_true, pv_bT, pv_bF, eq_self, m1z, neg1]
    refine hP h' (fun o ho => ?_) (F.cD M3) B
    rw [F.1 o (by omega) (by omega) (by omega) (by omega) (by omega) (by omega) (by omega), f3 o (by omega) (by omega) (by omega), f2 o (by omega) (by omega), f1 o (by omega)]
theorem m147 {d : Nat} {P : PvP} {g : PvG} {h : PvH} {x : SX} (G : gM g) (M : cD h x) (O : okX x) (a : Int32) (hP : P (some (.int (refA x a))) g h) : pv_run (d + 2) 147 [.ref 102, .int a] g h P := by
  have hR := O.R
  have hT := nTh_le O
  have hmk : mk (th (xS x)) (tR (xT x)) < 256 := p8 (mk_lt _ _) hR
  have e4 : (nI (nTh x) ≤ 4) = (nTh x ≤ 4) := nI_le' (b := 4) (by omega) (by decide)
  unfold refA at hP
  simp only [e147, z147_0, z147_1, z147_2, z147_3, z147_6, z147_9, z147_12, z147_14, z147_17, z147_34, pv_catN, pv_cat1, pv_cat2, pv_cat3, pv_catL, Option.toList, List.nil_append, List.cons_append, List.append_nil, pv_rfS, pn_i, pn_r, pn_n, pn_o, true_and, and_true, Nat.le_refl, and_self, true_implies, false_implies, not_true_eq_false, not_false_eq_true, pv_b0, pv_b01, pv_bn0, pv_b1, Bool.false_eq_true, Bool.true_eq_false, Bool.not_false, Bool.not_true, pv_bT, pv_bF, eq_self, m100, in13l]
  cases hI : in13 a with
  | false =>
    rw [hI] at hP
    refine ⟨fun c => absurd rfl c, fun _ => hP⟩
  | true =>
    rw [hI] at hP
    refine ⟨fun _ => ?_, fun c => absurd (by decide) c⟩
    rw [z147_18 (by simp [pv_cat, Value.category]) (by decide)]
    refine ⟨G.o, m117 G M.M hR ?_⟩
    simp only [Option.toList, List.cons_append, List.nil_append]
    rw [z147_21 (by simp [pv_cat, Value.category]) (by decide)]
    refine m118 hmk ?_
    simp only [z147_24, z147_25, z147_28, z147_30, z147_33, z147_34, pv_catN, pv_cat1, pv_cat2, pv_cat3, pv_catL, Option.toList, List.nil_append, List.cons_append, List.append_nil, pv_rfS, pn_i, pn_r, pn_n, pn_o, true_and, and_true, Nat.le_refl, and_self, true_implies, false_implies, not_true_eq_false, not_false_eq_true, pv_b0, pv_b01, pv_bn0, pv_b1, Bool.false_eq_true, Bool.true_eq_false, Bool.not_false, Bool.not_true, pv_bT, pv_bF, eq_self, show nI (pc (mk (th (xS x)) (tR (xT x)))) = nI (nTh x) from rfl, e4]
    simp only [if_true] at hP
    refine ⟨fun c => ?_, fun c => ?_⟩
    · rw [if_pos c] at hP; exact hP
    · rw [if_neg c] at hP; exact hP
theorem refA_z {x : SX} {a : Int32} (h : ¬ (in13 a = true ∧ nTh x ≤ 4)) : (refA x a = 0) = False := eq_false (refA_n (v := fun _ => 0) h).2.2
theorem oM148 {x : SX} (O : okX x) (a : Int32) : OpM 5 148 [.int a] x (.int (mostA x a)) x := by
  intro d P g h ⟨G, M0⟩ hP
  have M := M0.t0
  unfold mostA at hP
  have F0 : FM h (pv_st h 102 0 0) := FM.rf.st (by omega)
  generalize hh : pv_st h 102 0 0 = h0 at M F0
  simp only [e148, z148_0, z148_1, z148_2, z148_5, z148_6, pv_catN, pv_cat1, pv_cat2, pv_cat3, pv_catL, Option.toList, List.nil_append, List.cons_append, List.append_nil, pv_rfS, pn_i, pn_r, pn_n, pn_o, true_and, and_true, Nat.le_refl, and_self, true_implies, false_implies, not_true_eq_false, not_false_eq_true, pv_b0, pv_b01, pv_bn0, pv_b1, Bool.false_eq_true, Bool.true_eq_false, Bool.not_false, Bool.not_true, pv_bT, pv_bF, eq_self, G.o, hh]
  rw [z148_7 (by simp [pv_cat, Value.category]) (by decide)]
  refine ⟨G.o, m147 G M O a ?_⟩
  simp only [z148_10, z148_11, z148_12, z148_15, z148_16, z148_17, z148_18, pv_catN, pv_cat1, pv_cat2, pv_cat3, pv_catL, Option.toList, List.nil_append, List.cons_append, List.append_nil, pv_rfS, pn_i, pn_r, pn_n, pn_o, true_and, and_true, Nat.le_refl, and_self, true_implies, false_implies, not_true_eq_false, not_false_eq_true, pv_b0, pv_b01, pv_bn0, pv_b1, Bool.false_eq_true, Bool.true_eq_false, Bool.not_false, Bool.not_true, pv_bT, pv_bF, eq_self]
  by_cases c : in13 a = true ∧ nTh x ≤ 4
  · obtain ⟨e, he1, he3, rfl⟩ := in13_t c.1
    rw [refA_p c.1 c.2]
    refine ⟨fun _ => ?_, fun z => absurd rfl z⟩
    rw [z148_19 (by simp [pv_cat, Value.category]) (by decide)]
    refine ⟨G.o, m145 G M O he1 he3 fun h2 F2 M2 B => ?_⟩
    have hp := planB_pos O e
    have e0 : h2 102 32 = nI ((planB x e).1 - 1) := by
      rw [B.1]
      unfold mR
      rw [if_neg (by omega)]
    simp only [z148_22, z148_23, z148_26, pv_catN, pv_cat1, pv_cat2, pv_cat3, pv_catL, Option.toList, List.nil_append, List.cons_append, List.append_nil, pv_rfS, pn_i, pn_r, pn_n, pn_o, true_and, and_true, Nat.le_refl, and_self, true_implies, false_implies, not_true_eq_false, not_false_eq_true, pv_b0, pv_b01, pv_bn0, pv_b1, Bool.false_eq_true, Bool.true_eq_false, Bool.not_false, Bool.not_true, pv_bT, pv_bF, eq_self, G.o, e0]
    have := hP h2 ⟨G, M2⟩ (F0.tr F2)
    unfold plaA at this
    rw [if_pos c.1, if_pos c.2, nI_clamp (by omega)] at this
    exact this
  · refine ⟨fun z => absurd z (of_eq_false (refA_z c)), fun _ => ?_⟩
    rw [(refA_n (v := fun e => (planB x e).1 - 1) c).1]
    exact hP h0 ⟨G, M⟩ F0
theorem oM149 {x : SX} (O : okX x) (a : Int32) : OpM 5 149 [.int a] x (.int (leastA x a)) x := by
  intro d P g h ⟨G, M0⟩ hP
  have M := M0.t0
  unfold leastA at hP
  have F0 : FM h (pv_st h 102 0 0) := FM.rf.st (by omega)
  generalize hh : pv_st h 102 0 0 = h0 at M F0
  simp only [e149, z149_0, z149_1, z149_2, z149_5, z149_6, pv_catN, pv_cat1, pv_cat2, pv_cat3, pv_catL, Option.toList, List.nil_append, List.cons_append, List.append_nil, pv_rfS, pn_i, pn_r, pn_n, pn_o, true_and, and_true, Nat.le_refl, and_self, true_implies, false_implies, not_true_eq_false, not_false_eq_true, pv_b0, pv_b01, pv_bn0, pv_b1, Bool.false_eq_true, Bool.true_eq_false, Bool.not_false, Bool.not_true, pv_bT, pv_bF, eq_self, G.o, hh]
  rw [z149_7 (by simp [pv_cat, Value.category]) (by decide)]
  refine ⟨G.o, m147 G M O a ?_⟩
  simp only [z149_10, z149_11, z149_12, z149_15, z149_16, z149_17, z149_18, pv_catN, pv_cat1, pv_cat2, pv_cat3, pv_catL, Option.toList, List.nil_append, List.cons_append, List.append_nil, pv_rfS, pn_i, pn_r, pn_n, pn_o, true_and, and_true, Nat.le_refl, and_self, true_implies, false_implies, not_true_eq_false, not_false_eq_true, pv_b0, pv_b01, pv_bn0, pv_b1, Bool.false_eq_true, Bool.true_eq_false, Bool.not_false, Bool.not_true, pv_bT, pv_bF, eq_self]
  by_cases c : in13 a = true ∧ nTh x ≤ 4
  · obtain ⟨e, he1, he3, rfl⟩ := in13_t c.1
    rw [refA_p c.1 c.2]
    refine ⟨fun _ => ?_, fun z => absurd rfl z⟩
    rw [z149_19 (by simp [pv_cat, Value.category]) (by decide)]
    refine ⟨G.o, m145 G M O he1 he3 fun h2 F2 M2 B => ?_⟩
    have e0 := (B.2 (planB_pos O e)).1
    simp only [z149_22, z149_23, z149_26, pv_catN, pv_cat1, pv_cat2, pv_cat3, pv_catL, Option.toList, List.nil_append, List.cons_append, List.append_nil, pv_rfS, pn_i, pn_r, pn_n, pn_o, true_and, and_true, Nat.le_refl, and_self, true_implies, false_implies, not_true_eq_false, not_false_eq_true, pv_b0, pv_b01, pv_bn0, pv_b1, Bool.false_eq_true, Bool.true_eq_false, Bool.not_false, Bool.not_true, pv_bT, pv_bF, eq_self, G.o, e0]
    have := hP h2 ⟨G, M2⟩ (F0.tr F2)
    unfold plaA at this
    rw [if_pos c.1, if_pos c.2, nI_clamp (by omega)] at this
    exact this
  · refine ⟨fun z => absurd z (of_eq_false (refA_z c)), fun _ => ?_⟩
    rw [(refA_n (v := fun e => (planB x e).2.1) c).1]
    exact hP h0 ⟨G, M⟩ F0
theorem oM150 {x : SX} (O : okX x) (a b : Int32) : OpM 5 150 [.int a, .int b] x (.int (planA x a b)) x := by
  intro d P g h ⟨G, M0⟩ hP
  have M := M0.t0
  have hR := O.R
  unfold planA at hP
  have F0 : FM h (pv_st h 102 0 0) := FM.rf.st (by omega)
  generalize hh : pv_st h 102 0 0 = h0 at M F0
  simp only [e150, z150_0, z150_1, z150_2, z150_5, z150_6, z150_7, z150_10, z150_13, z150_14, z150_15, z150_16, pv_catN, pv_cat1, pv_cat2, pv_cat3, pv_catL, Option.toList, List.nil_append, List.cons_append, List.append_nil, pv_rfS, pn_i, pn_r, pn_n, pn_o, true_and, and_true, Nat.le_refl, and_self, true_implies, false_implies, not_true_eq_false, not_false_eq_true, pv_b0, pv_b01, pv_bn0, pv_b1, Bool.false_eq_true, Bool.true_eq_false, Bool.not_false, Bool.not_true, pv_bT, pv_bF, eq_self, G.o, hh, m102 G M O]
  cases hb : inr b (tR (xT x)) with
  | false =>
    rw [hb] at hP
    refine ⟨fun c => absurd c (by decide), fun _ => hP h0 ⟨G, M⟩ F0⟩
  | true =>
    rw [hb] at hP
    refine ⟨fun _ => ?_, fun c => absurd rfl c⟩
    obtain ⟨r, hr, rfl⟩ := inr_t hb
    rw [z150_17 (by simp [pv_cat, Value.category]) (by decide)]
    refine ⟨G.o, m147 G M O a ?_⟩
    simp only [z150_20, z150_21, z150_22, z150_25, z150_26, z150_27, z150_28, pv_catN, pv_cat1, pv_cat2, pv_cat3, pv_catL, Option.toList, List.nil_append, List.cons_append, List.append_nil, pv_rfS, pn_i, pn_r, pn_n, pn_o, true_and, and_true, Nat.le_refl, and_self, true_implies, false_implies, not_true_eq_false, not_false_eq_true, pv_b0, pv_b01, pv_bn0, pv_b1, Bool.false_eq_true, Bool.true_eq_false, Bool.not_false, Bool.not_true, pv_bT, pv_bF, eq_self]
    by_cases c : in13 a = true ∧ nTh x ≤ 4
    · obtain ⟨e, he1, he3, rfl⟩ := in13_t c.1
      rw [refA_p c.1 c.2]
      refine ⟨fun _ => ?_, fun z => absurd rfl z⟩
      rw [z150_29 (by simp [pv_cat, Value.category]) (by decide)]
      refine ⟨G.o, m145 G M O he1 he3 fun h2 F2 M2 B => ?_⟩
      have e0 := (B.2 (planB_pos O e)).2 r hr
      simp only [z150_32, z150_33, z150_36, z150_37, z150_38, pv_catN, pv_cat1, pv_cat2, pv_cat3, pv_catL, Option.toList, List.nil_append, List.cons_append, List.append_nil, pv_rfS, pn_i, pn_r, pn_n, pn_o, true_and, and_true, Nat.le_refl, and_self, true_implies, false_implies, not_true_eq_false, not_false_eq_true, pv_b0, pv_b01, pv_bn0, pv_b1, Bool.false_eq_true, Bool.true_eq_false, Bool.not_false, Bool.not_true, pv_bT, pv_bF, eq_self, G.o, G.r34, G.t124, vp_nI (show r < 8 by omega) (show 8 < 2 ^ 31 by decide), nI_clamp (show r < 2 ^ 31 by omega), e0]
      have := hP h2 ⟨G, M2⟩ (F0.tr F2)
      unfold plaA at this
      rw [if_pos c.1, if_pos c.2, nI_clamp (show e < 2 ^ 31 by omega), nI_clamp (show r < 2 ^ 31 by omega)] at this
      exact this
    · refine ⟨fun z => absurd z (of_eq_false (refA_z c)), fun _ => ?_⟩
      rw [(refA_n (v := fun e => if th (xS x) (nI r).toNatClampNeg = true then (planB x e).2.2 (hd (sK (xS x)) (nI r).toNatClampNeg) else sP (xS x) (nI r).toNatClampNeg) c).1]
      exact hP h0 ⟨G, M⟩ F0
