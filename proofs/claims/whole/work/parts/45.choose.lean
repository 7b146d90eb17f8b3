/-! the class's planner -/
theorem m13 {d : Nat} {P : PvP} {g : PvG} {h : PvH} {rt tt : Nat} {q : Nat → Nat} {x : SX} (G : gC g rt tt q) (S : cS h 20 (tR (xT x)) (xS x)) (T : cT h rt (xT x)) (O : okX x) {ρ k : Nat} (hk : k ≤ 3) (hP : P (some (.int (nI (wor (xT x) (xS x) ρ k)))) g h) : pv_run (d + 2) 13 [.ref rt, .ref 20, .int (nI (grp (xS x) ρ (tR (xT x)))), .int (nI k)] g h P := by
  have hR := O.R
  have hg := grp_lt (s := xS x) (r := ρ) hR
  have loop : ∀ n r (w6 : Option Value), r + n = tR (xT x) → pv_E (d + 1) 13 P 6 [some (.ref rt), some (.ref 20), some (.int (nI (grp (xS x) ρ (tR (xT x))))), some (.int (nI k)), some (.int (nI (sm (fun r => if (grp (xS x) ρ (tR (xT x))).testBit r then (if sK (xS x) r = 2 then 0 else sV (xS x) r - (if sK (xS x) r = 1 then 0 else k)) else 0) r))), some (.int (nI r)), w6] [] 0 0 g h := by
    intro n
    induction n with
    | zero =>
      intro r w6 hr
      have hr : r = tR (xT x) := hr
      subst hr
      rw [z13_6]
      simp only [z13_8, z13_9, z13_12, z13_78, z13_80, pv_catN, pv_cat1, pv_cat2, pv_cat3, pv_catL, Option.toList, List.nil_append, List.cons_append, List.append_nil, pv_rfS, pn_i, pn_r, pn_n, pn_o, true_and, and_true, Nat.le_refl, and_self, true_implies, false_implies, not_true_eq_false, not_false_eq_true, pv_b0, pv_b01, pv_bn0, pv_b1, Bool.false_eq_true, Bool.true_eq_false, Bool.not_false, Bool.not_true, pv_bT, pv_bF, eq_self, G.Tr.1, T.2.2.1, nI_le' (show tR (xT x) < 2 ^ 31 by omega) (show tR (xT x) < 2 ^ 31 by omega)]
      exact hP
    | succ n ih =>
      intro r w6 hr
      have hrR : r < tR (xT x) := by omega
      have hq := O.S.1 r hrR
      have e : sm (fun r => if (grp (xS x) ρ (tR (xT x))).testBit r then (if sK (xS x) r = 2 then 0 else sV (xS x) r - (if sK (xS x) r = 1 then 0 else k)) else 0) (r + 1) = sm (fun r => if (grp (xS x) ρ (tR (xT x))).testBit r then (if sK (xS x) r = 2 then 0 else sV (xS x) r - (if sK (xS x) r = 1 then 0 else k)) else 0) r + (if (grp (xS x) ρ (tR (xT x))).testBit r then (if sK (xS x) r = 2 then 0 else sV (xS x) r - (if sK (xS x) r = 1 then 0 else k)) else 0) := rfl
      have ih := fun w6 => ih (r + 1) w6 (by omega)
      rw [e] at ih
      have hk1 : (nI (sK (xS x) r) = 1) = (sK (xS x) r = 1) := nI_eq' (b := 1) (by omega) (by decide)
      have hk2 : (nI (sK (xS x) r) = 2) = (sK (xS x) r = 2) := nI_eq' (b := 2) (by omega) (by decide)
      have s0 : nI (sV (xS x) r) - 0 = nI (sV (xS x) r) - nI 0 := rfl
      rw [z13_6]
      simp only [z13_0, z13_1, z13_3, z13_4, z13_8, z13_9, z13_12, z13_15, z13_16, z13_18, z13_21, z13_24, z13_25, z13_28, z13_30, z13_31, z13_32, z13_35, z13_36, z13_39, z13_41, z13_42, z13_43, z13_46, z13_47, z13_50, z13_51, z13_53, z13_55, z13_56, z13_57, z13_60, z13_62, z13_63, z13_65, z13_66, z13_69, z13_70, z13_72, z13_75, z13_78, z13_80, pv_catN, pv_cat1, pv_cat2, pv_cat3, pv_catL, Option.toList, List.nil_append, List.cons_append, List.append_nil, pv_rfS, pn_i, pn_r, pn_n, pn_o, true_and, and_true, Nat.le_refl, and_self, true_implies, false_implies, not_true_eq_false, not_false_eq_true, pv_b0, pv_b01, pv_bn0, pv_b1, Bool.false_eq_true, Bool.true_eq_false, Bool.not_false, Bool.not_true, pv_bT, pv_bF, eq_self, G.Tr.1, T.2.2.1, nI_le' (show tR (xT x) < 2 ^ 31 by omega) (show r < 2 ^ 31 by omega), show (tR (xT x) ≤ r) = False from eq_false (by omega), m98 (show grp (xS x) ρ (tR (xT x)) < 2 ^ 31 by omega) (show r < 32 by omega), G.S20.1, G.S20.2.1, G.S20.2.2.1, G.S20.2.2.2.1, G.S20.2.2.2.2.1, G.S20.2.2.2.2.2.1, G.S20.2.2.2.2.2.2, vp_nI (show r < 8 by omega) (show 8 < 2 ^ 31 by decide), nI_clamp (show r < 2 ^ 31 by omega), S.2.1 r hrR, S.2.2.1 r hrR, hk1, hk2, s0, nI_subZ (show sV (xS x) r < 2 ^ 30 by omega) (show k < 2 ^ 30 by omega), nI_subZ (show sV (xS x) r < 2 ^ 30 by omega) (show 0 < 2 ^ 30 by decide), nI_add, nI_1]
      refine br (fun c => ?_) (fun c => ?_)
      · rw [c] at ih
        exact ih w6
      · rw [if_pos c] at ih
        refine ⟨fun c2 => ?_, fun c2 => ⟨fun c1 => ?_, fun c1 => ?_⟩⟩
        · rw [if_pos c2] at ih
          exact ih _
        · rw [if_neg c2, if_neg c1] at ih
          exact ih _
        · rw [if_neg c2, if_pos (Classical.not_not.mp c1)] at ih
          exact ih _
  simp only [e13, z13_0, z13_1, z13_3, z13_4, pv_catN, pv_cat1, pv_cat2, pv_cat3, pv_catL, Option.toList, List.nil_append, List.cons_append, List.append_nil, pv_rfS, pn_i, pn_r, pn_n, pn_o, true_and, and_true, Nat.le_refl, and_self, true_implies, false_implies, not_true_eq_false, not_false_eq_true, pv_b0, pv_b01, pv_bn0, pv_b1, Bool.false_eq_true, Bool.true_eq_false, Bool.not_false, Bool.not_true, pv_bT, pv_bF, eq_self]
  exact loop (tR (xT x)) 0 _ (Nat.zero_add _)
def mR (v : Int32) (b : Nat) : Int32 := if b = 0 then v else nI (b - 1)
theorem mR_lt {v : Int32} {k b : Nat} (hv : v.toInt < 0) (hk : k < 2 ^ 30) (hb : b < 2 ^ 30) : (nI k < mR v b) = (k + 1 < b) := by
  unfold mR
  by_cases c : b = 0
  · rw [if_pos c]
    apply propext
    rw [Int32.lt_iff_toInt_lt, nI_toInt (by omega)]
    omega
  · rw [if_neg c, nI_lt' (by omega) (by omega)]
    exact propext (by omega)
theorem mR_gt {v : Int32} {k b : Nat} (hv : v.toInt < 0) (hk : k < 2 ^ 30) (hb : b < 2 ^ 30) : (mR v b < nI k) = (b < k + 1) := by
  unfold mR
  by_cases c : b = 0
  · rw [if_pos c]
    apply propext
    rw [Int32.lt_iff_toInt_lt, nI_toInt (by omega)]
    omega
  · rw [if_neg c, nI_lt' (by omega) (by omega)]
    exact propext (by omega)
theorem mR_eq {v : Int32} {k b : Nat} (hv : v.toInt < 0) (hk : k < 2 ^ 30) (hb : b < 2 ^ 30) : (nI k = mR v b) = (k + 1 = b) := by
  unfold mR
  by_cases c : b = 0
  · rw [if_pos c]
    apply propext
    rw [← Int32.toInt_inj, nI_toInt (by omega)]
    omega
  · rw [if_neg c, nI_eq' (by omega) (by omega)]
    exact propext (by omega)
def hB (h : PvH) (t : ST) (s : SS) (b : PB) : Prop := h 84 0 = mR (-1) b.1 ∧ (0 < b.1 → h 84 1 = nI b.2.1 ∧ ∀ u ρ, (rp s (tR t))[u]? = some ρ → h 85 u = nI (b.2.2 ρ))
def FR (h h' : PvH) (T : Nat) : Prop := (∀ o, o ≠ 84 → o ≠ 85 → o ≠ 87 → o ≠ 89 → o ≠ 90 → o ≠ 91 → o ≠ 97 → o ≠ 98 → h' o = h o) ∧ (∀ k, 2 ≤ k → h' 84 k = h 84 k) ∧ (∀ j, j < 3 → h' 87 j = h 87 j) ∧ (∀ j f, j < 3 → f < 5 → h' (89 + j) f = h (89 + j) f) ∧ ∀ k, k < T → h' 97 k = h 97 k ∧ h' 98 k = h 98 k
theorem FR.rf {h : PvH} {T : Nat} : FR h h T := ⟨fun _ _ _ _ _ _ _ _ _ => rfl, fun _ _ => rfl, fun _ _ => rfl, fun _ _ _ _ => rfl, fun _ _ => ⟨rfl, rfl⟩⟩
theorem FR.tr {a b c : PvH} {T T' : Nat} (h1 : FR a b T) (h2 : FR b c T') (h : T ≤ T') : FR a c T := ⟨fun o a1 a2 a3 a4 a5 a6 a7 a8 => (h2.1 o a1 a2 a3 a4 a5 a6 a7 a8).trans (h1.1 o a1 a2 a3 a4 a5 a6 a7 a8), fun k hk => (h2.2.1 k hk).trans (h1.2.1 k hk), fun j hj => (h2.2.2.1 j hj).trans (h1.2.2.1 j hj), fun j f hj hf => (h2.2.2.2.1 j f hj hf).trans (h1.2.2.2.1 j f hj hf), fun k hk => ⟨(h2.2.2.2.2 k (by omega)).1.trans (h1.2.2.2.2 k hk).1, (h2.2.2.2.2 k (by omega)).2.trans (h1.2.2.2.2 k hk).2⟩⟩
theorem m15 {d : Nat} {P : PvP} {g : PvG} {h : PvH} {rt tt : Nat} {q : Nat → Nat} (G : gC g rt tt q) (r3 : pv_rf g 84 3 = some 79) {c H C T : Nat} (hc : c ≤ 4) (e79 : h 79 0 = nI c) (hP : ∀ h' : PvH, FR h h' T → h' 84 0 = nI H → h' 84 1 = nI C → (∀ u, u < c → h' 85 u = h 97 u) → P none g h') : pv_run (d + 1) 15 [.ref 84, .int (nI H), .int (nI C)] g h P := by
  have loop : ∀ n u (h1 : PvH), u + n = c → (∀ o, o ≠ 84 → o ≠ 85 → h1 o = h o) → (∀ k, 2 ≤ k → h1 84 k = h 84 k) → h1 84 0 = nI H → h1 84 1 = nI C → (∀ e, e < u → h1 85 e = h 97 e) → pv_E d 15 P 12 [some (.ref 84), some (.int (nI H)), some (.int (nI C)), some (.int (nI u))] [] 0 0 g h1 := by
    intro n
    induction n with
    | zero =>
      intro u h1 hu f1 f2 c0 c1 c2
      have hu : u = c := hu
      subst hu
      have e : h1 79 0 = nI u := by rw [f1 79 (by omega) (by omega)]; exact e79
      rw [z15_12]
      simp only [z15_13, z15_14, z15_17, z15_20, z15_41, pv_catN, pv_cat1, pv_cat2, pv_cat3, pv_catL, Option.toList, List.nil_append, List.cons_append, List.append_nil, pv_rfS, pn_i, pn_r, pn_n, pn_o, true_and, and_true, Nat.le_refl, and_self, true_implies, false_implies, not_true_eq_false, not_false_eq_true, pv_b0, pv_b01, pv_bn0, pv_b1, Bool.false_eq_true, Bool.true_eq_false, Bool.not_false, Bool.not_true, pv_bT, pv_bF, eq_self, G.o84, G.o79, r3, e, nI_le' (show u < 2 ^ 31 by omega) (show u < 2 ^ 31 by omega)]
      refine hP h1 ⟨fun o a1 a2 _ _ _ _ _ _ => f1 o a1 a2, f2, fun j hj => by rw [f1 87 (by omega) (by omega)], fun j f hj hf => by rw [f1 _ (by omega) (by omega)], fun k hk => ⟨by rw [f1 _ (by omega) (by omega)], by rw [f1 _ (by omega) (by omega)]⟩⟩ c0 c1 c2
    | succ n ih =>
      intro u h1 hu f1 f2 c0 c1 c2
      have e : h1 79 0 = nI c := by rw [f1 79 (by omega) (by omega)]; exact e79
      rw [z15_12]
      simp only [z15_0, z15_1, z15_2, z15_5, z15_6, z15_7, z15_10, z15_11, z15_13, z15_14, z15_17, z15_20, z15_23, z15_24, z15_27, z15_28, z15_29, z15_32, z15_33, z15_34, z15_35, z15_38, z15_41, pv_catN, pv_cat1, pv_cat2, pv_cat3, pv_catL, Option.toList, List.nil_append, List.cons_append, List.append_nil, pv_rfS, pn_i, pn_r, pn_n, pn_o, true_and, and_true, Nat.le_refl, and_self, true_implies, false_implies, not_true_eq_false, not_false_eq_true, pv_b0, pv_b01, pv_bn0, pv_b1, Bool.false_eq_true, Bool.true_eq_false, Bool.not_false, Bool.not_true, pv_bT, pv_bF, eq_self, G.o84, G.o79, r3, e, nI_le' (show c < 2 ^ 31 by omega) (show u < 2 ^ 31 by omega), show (c ≤ u) = False from eq_false (by omega), G.r84_2, G.t85, G.r84_11, G.t97, vp_nI (show u < 4 by omega) (show 4 < 2 ^ 31 by decide), vp_nI (show u < 12 by omega) (show 12 < 2 ^ 31 by decide), nI_clamp (show u < 2 ^ 31 by omega), nI_1]
      refine ih (u + 1) _ (by omega) (fun o a b => by rw [st_o b, f1 o a b]) (fun k hk => by rw [st_o (by omega), f2 k hk]) (by rw [st_o (by omega), c0]) (by rw [st_o (by omega), c1]) (fun e he => ?_)
      by_cases z : e = u
      · rw [z, st_at, f1 97 (by omega) (by omega)]
      · rw [st_k z]; exact c2 e (by omega)
  simp only [e15, z15_0, z15_1, z15_2, z15_5, z15_6, z15_7, z15_10, z15_11, pv_catN, pv_cat1, pv_cat2, pv_cat3, pv_catL, Option.toList, List.nil_append, List.cons_append, List.append_nil, pv_rfS, pn_i, pn_r, pn_n, pn_o, true_and, and_true, Nat.le_refl, and_self, true_implies, false_implies, not_true_eq_false, not_false_eq_true, pv_b0, pv_b01, pv_bn0, pv_b1, Bool.false_eq_true, Bool.true_eq_false, Bool.not_false, Bool.not_true, pv_bT, pv_bF, eq_self, G.o84]
  exact loop c 0 _ (Nat.zero_add _) (fun o a _ => by rw [st_o a, st_o a]) (fun k hk => by rw [st_k (by omega), st_k (by omega)]) (by rw [st_k (by omega), st_at]) st_at (fun e he => absurd he (Nat.not_lt_zero e))
theorem m14_head {d : Nat} {P : PvP} {g : PvG} {h : PvH} {rt tt : Nat} {q : Nat → Nat} {t : ST} {s : SS} (G : gC g rt tt q) {T : Int32} {H C : Nat} {b : PB} (B : hB h t s b) (hb : pBk b) (hH : H ≤ 2000) (hC : C ≤ 2000) (h0 : pNo b H C → P none g h) (h1 : ¬ pNo b H C → pv_E d 14 P 25 [some (.ref 84), some (.int T), some (.int (nI H)), some (.int (nI C)), none, none, none, none, none, none, none, none, none, none] [] 0 0 g h) : pv_run (d + 1) 14 [.ref 84, .int T, .int (nI H), .int (nI C)] g h P := by
  have e1 := mR_lt (v := -1) (k := H) (b := b.1) (by decide) (by omega) (by have := hb.1; omega)
  have e2 := mR_eq (v := -1) (k := H) (b := b.1) (by decide) (by omega) (by have := hb.1; omega)
  simp only [e14, z14_0, z14_1, z14_2, z14_5, z14_8, z14_9, z14_10, z14_13, z14_16, z14_17, z14_18, z14_21, z14_24, pv_catN, pv_cat1, pv_cat2, pv_cat3, pv_catL, Option.toList, List.nil_append, List.cons_append, List.append_nil, pv_rfS, pn_i, pn_r, pn_n, pn_o, true_and, and_true, Nat.le_refl, and_self, true_implies, false_implies, not_true_eq_false, not_false_eq_true, pv_b0, pv_b01, pv_bn0, pv_b1, Bool.false_eq_true, Bool.true_eq_false, Bool.not_false, Bool.not_true, pv_bT, pv_bF, eq_self, G.o84, B.1, e1, e2]
  unfold pNo at h0 h1
  refine ⟨fun c => h0 (Or.inl c), fun c => ⟨fun c2 => h1 (by omega), fun c2 => ?_⟩⟩
  have c2 := Classical.not_not.mp c2
  have e3 := (B.2 (by omega)).1
  rw [e3, nI_lt' (show C < 2 ^ 31 by omega) (show b.2.1 < 2 ^ 31 by have := hb.2; omega)]
  exact ⟨fun c3 => h1 (by omega), fun c3 => h0 (by omega)⟩
