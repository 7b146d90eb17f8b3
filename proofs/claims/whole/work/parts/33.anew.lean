/-! written anew -/
def citN (x : SX) (r : Nat) : Nat := sm (fun e => if (th (xS x) e && (tC (xT x) e).testBit r) = true then 1 else 0) (tR (xT x))
def clr (D r R : Nat) : Nat := mk (fun e => D.testBit e && !decide (e = r)) R
theorem clr_8 : ∀ D, D < 256 → ∀ r, r < 8 → nI D &&& (nI (2 ^ r) ^^^ (-1)) = nI (clr D r 8) := by decide +kernel
theorem clr_R {D r R : Nat} (hD : D < 2 ^ R) (hR : R ≤ 8) : clr D r 8 = clr D r R := by
  refine bit_ext (n := 8) (mk_lt _ _) (Nat.lt_of_lt_of_le (mk_lt _ _) (Nat.pow_le_pow_right (by decide) hR)) (fun e he => ?_)
  unfold clr
  rw [mk_bit, mk_bit]
  by_cases c : e < R
  · rw [decide_eq_true he, decide_eq_true c]
  · rw [Nat.testBit_lt_two_pow (Nat.lt_of_lt_of_le hD (Nat.pow_le_pow_right (by decide) (show R ≤ e by omega)))]
    simp
theorem clr_bit {D r R e : Nat} (he : e < R) : (clr D r R).testBit e = (D.testBit e && !decide (e = r)) := by
  unfold clr
  rw [mk_bit, decide_eq_true he]
  rfl
def newS (s : SS) (r f R : Nat) : SS := (updN (sP s) r f, sV s, fun e => if e = r then 1 else if e = r + 1 ∧ sK s e = 3 then 0 else sK s e, clr (sD s) r R, sH s, sE s, sL s)
theorem m89 {d : Nat} {P : PvP} {g : PvG} {h : PvH} {rt tt : Nat} {q : Nat → Nat} {x : SX} (G : gC g rt tt q) (C : cC h rt q x) (O : okX x) {r : Nat} (hr : r < tR (xT x)) (hP : P (some (.int (nI (citN x r)))) g h) : pv_run (d + 3) 89 [.ref 0, .int (nI r)] g h P := by
  have hR := O.R
  have hD := O.D
  have loop : ∀ n e, e + n = tR (xT x) → pv_E (d + 2) 89 P 4 [some (.ref 0), some (.int (nI r)), some (.int (nI (sm (fun e => if (th (xS x) e && (tC (xT x) e).testBit r) = true then 1 else 0) e))), some (.int (nI e))] [] 0 0 g h := by
    intro n
    induction n with
    | zero =>
      intro e he
      have he : e = tR (xT x) := he
      subst he
      rw [z89_4]
      simp only [z89_0, z89_1, z89_2, z89_3, z89_5, z89_6, z89_9, z89_12, z89_15, z89_16, z89_19, z89_20, z89_23, z89_26, z89_27, z89_30, z89_31, z89_32, z89_35, z89_38, z89_41, z89_44, z89_47, z89_48, pv_catN, pv_cat1, pv_cat2, pv_cat3, pv_catL, Option.toList, List.nil_append, List.cons_append, List.append_nil, pv_rfS, pn_i, pn_r, pn_n, pn_o, true_and, and_true, Nat.le_refl, and_self, true_implies, false_implies, not_true_eq_false, not_false_eq_true, pv_b0, pv_b01, pv_bn0, pv_b1, Bool.false_eq_true, Bool.true_eq_false, Bool.not_false, Bool.not_true, pv_bT, pv_bF, eq_self, G.o0, G.r0_3, G.Tr.1, C.T.2.2.1, nI_le' (show tR (xT x) < 2 ^ 31 by omega) (show tR (xT x) < 2 ^ 31 by omega)]
      exact hP
    | succ n ih =>
      intro e he
      have heR : e < tR (xT x) := by omega
      have hC := p8 (O.T.2.2.2.1 e heR).2.2.2.1 hR
      have q : sm (fun e => if (th (xS x) e && (tC (xT x) e).testBit r) = true then 1 else 0) (e + 1) = sm (fun e => if (th (xS x) e && (tC (xT x) e).testBit r) = true then 1 else 0) e + (if (th (xS x) e && (tC (xT x) e).testBit r) = true then 1 else 0) := rfl
      have := ih (e + 1) (by omega)
      rw [q] at this
      rw [z89_4]
      simp only [z89_0, z89_1, z89_2, z89_3, z89_5, z89_6, z89_9, z89_12, z89_15, z89_16, z89_19, z89_20, z89_23, z89_26, z89_27, z89_30, z89_31, z89_32, z89_35, z89_38, z89_41, z89_44, z89_47, z89_48, pv_catN, pv_cat1, pv_cat2, pv_cat3, pv_catL, Option.toList, List.nil_append, List.cons_append, List.append_nil, pv_rfS, pn_i, pn_r, pn_n, pn_o, true_and, and_true, Nat.le_refl, and_self, true_implies, false_implies, not_true_eq_false, not_false_eq_true, pv_b0, pv_b01, pv_bn0, pv_b1, Bool.false_eq_true, Bool.true_eq_false, Bool.not_false, Bool.not_true, pv_bT, pv_bF, eq_self, G.o0, G.r0_3, G.r0_4, G.Tr.1, C.T.2.2.1, nI_le' (show tR (xT x) < 2 ^ 31 by omega) (show e < 2 ^ 31 by omega), show (tR (xT x) ≤ e) = False from eq_false (by omega), m42 G.S20 C.S hD (show e < 32 by omega), G.S20.1, e52, z52_0, z52_1, z52_4, z52_5, z52_6, z52_7, z52_10, G.Tr.2.2.2.2.2.2.2.1, G.Tr.2.2.2.2.2.2.2.2.2.2.2.2.2.2, vp_nI (show e < 8 by omega) (show 8 < 2 ^ 31 by decide), nI_clamp (show e < 2 ^ 31 by omega), C.T.2.2.2.2.2 e heR, m98 (show tC (xT x) e < 2 ^ 31 by omega) (show r < 32 by omega), nI_1]
      cases c1 : th (xS x) e <;> cases c2 : (tC (xT x) e).testBit r <;> simpa [c1, c2] using this
  simp only [e89, z89_0, z89_1, z89_2, z89_3, pv_catN, pv_cat1, pv_cat2, pv_cat3, pv_catL, Option.toList, List.nil_append, List.cons_append, List.append_nil, pv_rfS, pn_i, pn_r, pn_n, pn_o, true_and, and_true, Nat.le_refl, and_self, true_implies, false_implies, not_true_eq_false, not_false_eq_true, pv_b0, pv_b01, pv_bn0, pv_b1, Bool.false_eq_true, Bool.true_eq_false, Bool.not_false, Bool.not_true, pv_bT, pv_bF, eq_self]
  exact loop (tR (xT x)) 0 (Nat.zero_add _)
theorem m136 {d : Nat} {P : PvP} {g : PvG} {h : PvH} {x : SX} (G : gM g) (M : cD h x) (O : okX x) {r : Nat} (hr : r < tR (xT x)) (hP : P (some (.int (nI (citN x r)))) g h) : pv_run (d + 1) 136 [.ref 102, .int (nI r)] g h P := by
  have hR := O.R
  have loop : ∀ n e, e + n = tR (xT x) → pv_E d 136 P 4 [some (.ref 102), some (.int (nI r)), some (.int (nI (sm (fun e => if (th (xS x) e && (tC (xT x) e).testBit r) = true then 1 else 0) e))), some (.int (nI e))] [] 0 0 g h := by
    intro n
    induction n with
    | zero =>
      intro e he
      have he : e = tR (xT x) := he
      subst he
      rw [z136_4]
      simp only [z136_0, z136_1, z136_2, z136_3, z136_5, z136_6, z136_9, z136_12, z136_13, z136_14, z136_17, z136_19, z136_20, z136_21, z136_22, z136_23, z136_24, z136_27, z136_28, z136_31, z136_32, z136_33, z136_36, z136_37, z136_40, z136_41, z136_42, z136_43, z136_46, z136_49, z136_50, pv_catN, pv_cat1, pv_cat2, pv_cat3, pv_catL, Option.toList, List.nil_append, List.cons_append, List.append_nil, pv_rfS, pn_i, pn_r, pn_n, pn_o, true_and, and_true, Nat.le_refl, and_self, true_implies, false_implies, not_true_eq_false, not_false_eq_true, pv_b0, pv_b01, pv_bn0, pv_b1, Bool.false_eq_true, Bool.true_eq_false, Bool.not_false, Bool.not_true, pv_bT, pv_bF, eq_self, G.o, M.M.R, nI_le' (show tR (xT x) < 2 ^ 31 by omega) (show tR (xT x) < 2 ^ 31 by omega)]
      exact hP
    | succ n ih =>
      intro e he
      have heR : e < tR (xT x) := by omega
      have e8 : (8 : Int32) * nI e + nI r = nI (8 * e + r) := by
        rw [show (8 : Int32) = nI 8 from rfl, pk_mul, nI_add]
      have q : sm (fun e => if (th (xS x) e && (tC (xT x) e).testBit r) = true then 1 else 0) (e + 1) = sm (fun e => if (th (xS x) e && (tC (xT x) e).testBit r) = true then 1 else 0) e + (if (th (xS x) e && (tC (xT x) e).testBit r) = true then 1 else 0) := rfl
      have := ih (e + 1) (by omega)
      rw [q] at this
      rw [z136_4]
      simp only [z136_0, z136_1, z136_2, z136_3, z136_5, z136_6, z136_9, z136_12, z136_13, z136_14, z136_17, z136_19, z136_20, z136_21, z136_22, z136_23, z136_24, z136_27, z136_28, z136_31, z136_32, z136_33, z136_36, z136_37, z136_40, z136_41, z136_42, z136_43, z136_46, z136_49, z136_50, pv_catN, pv_cat1, pv_cat2, pv_cat3, pv_catL, Option.toList, List.nil_append, List.cons_append, List.append_nil, pv_rfS, pn_i, pn_r, pn_n, pn_o, true_and, and_true, Nat.le_refl, and_self, true_implies, false_implies, not_true_eq_false, not_false_eq_true, pv_b0, pv_b01, pv_bn0, pv_b1, Bool.false_eq_true, Bool.true_eq_false, Bool.not_false, Bool.not_true, pv_bT, pv_bF, eq_self, G.o, M.M.R, nI_le' (show tR (xT x) < 2 ^ 31 by omega) (show e < 2 ^ 31 by omega), show (tR (xT x) ≤ e) = False from eq_false (by omega), G.r12, G.t110, G.r14, G.t112, e8, vp_nI (show e < 8 by omega) (show 8 < 2 ^ 31 by decide), nI_clamp (show e < 2 ^ 31 by omega), vp_nI (show 8 * e + r < 64 by omega) (by decide), nI_clamp (show 8 * e + r < 2 ^ 31 by omega), M.M.C e r heR hr, M.M.D e heR, nI_1, Int32.add_zero]
      cases c1 : (sD (xS x)).testBit e <;> cases c2 : (tC (xT x) e).testBit r <;> simpa [c1, c2, th] using this
  simp only [e136, z136_0, z136_1, z136_2, z136_3, pv_catN, pv_cat1, pv_cat2, pv_cat3, pv_catL, Option.toList, List.nil_append, List.cons_append, List.append_nil, pv_rfS, pn_i, pn_r, pn_n, pn_o, true_and, and_true, Nat.le_refl, and_self, true_implies, false_implies, not_true_eq_false, not_false_eq_true, pv_b0, pv_b01, pv_bn0, pv_b1, Bool.false_eq_true, Bool.true_eq_false, Bool.not_false, Bool.not_true, pv_bT, pv_bF, eq_self]
  exact loop (tR (xT x)) 0 (Nat.zero_add _)
theorem m50 {d : Nat} {P : PvP} {g : PvG} {h : PvH} {o r f R : Nat} {s : SS} (G : gS g o) (S : cS h o R s) (hR : R ≤ 8) (hr : r < R) (hD : sD s < 2 ^ R) (hK : ∀ e, e < R → sK s e ≤ 3) (hP : ∀ h' : PvH, (∀ a, (a < o ∨ o + 3 < a) → h' a = h a) → cS h' o R (newS s r f R) → P none g h') : pv_run (d + 1) 50 [.ref o, .int (nI r), .int (nI f), .int (nI R)] g h P := by
  have hD8 : sD s < 256 := p8 hD hR
  have ec := clr_8 (sD s) hD8 r (by omega)
  rw [clr_R hD hR] at ec
  have base : ∀ h' : PvH, (∀ a, a ≠ o → a ≠ o + 1 → a ≠ o + 3 → h' a = h a) → (∀ k, k ≠ 3 → h' o k = h o k) → h' o 3 = nI (clr (sD s) r R) → (∀ e, e < R → h' (o + 1) e = nI (updN (sP s) r f e)) → (∀ e, e < R → h' (o + 3) e = nI (if e = r then 1 else if e = r + 1 ∧ sK s e = 3 then 0 else sK s e)) → P none g h' := by
    intro h' f1 f2 c3 c1 ck
    obtain ⟨s1, s2, s3, s4, s5, s6, s7⟩ := S
    exact hP h' (fun a ha => f1 a (by omega) (by omega) (by omega)) ⟨c1, fun e he => by rw [f1 _ (by omega) (by omega) (by omega)]; exact s2 e he, ck, c3, by rw [f2 _ (by omega)]; exact s5, by rw [f2 _ (by omega)]; exact s6, by rw [f2 _ (by omega)]; exact s7⟩
  have P1 : ∀ e, e < R → pv_st h (o + 1) r (nI f) (o + 1) e = nI (updN (sP s) r f e) := fun e he => by
    unfold updN
    by_cases c : e = r
    · subst c; rw [st_at, if_pos rfl]
    · rw [st_k c, if_neg c]; exact S.1 e he
  simp only [e50, z50_0, z50_1, y50_1, z50_2, z50_5, z50_6, z50_7, z50_8, z50_9, z50_10, z50_11, z50_14, z50_15, z50_18, z50_19, z50_20, z50_21, z50_22, z50_25, z50_26, z50_27, z50_28, z50_29, z50_30, z50_31, z50_33, z50_35, z50_36, z50_39, z50_40, z50_43, z50_45, z50_46, z50_47, z50_50, z50_51, z50_54, z50_56, z50_57, z50_58, pv_catN, pv_cat1, pv_cat2, pv_cat3, pv_catL, Option.toList, List.nil_append, List.cons_append, List.append_nil, pv_rfS, pn_i, pn_r, pn_n, pn_o, true_and, and_true, Nat.le_refl, and_self, true_implies, false_implies, not_true_eq_false, not_false_eq_true, pv_b0, pv_b01, pv_bn0, pv_b1, Bool.false_eq_true, Bool.true_eq_false, Bool.not_false, Bool.not_true, pv_bT, pv_bF, eq_self, G.1, G.2.1, G.2.2.2.1, G.2.2.2.2.1, G.2.2.2.2.2.2, S.2.2.2.1, shlN (show r < 31 by omega), ec, vp_nI (show r < 8 by omega) (show 8 < 2 ^ 31 by decide), nI_clamp (show r < 2 ^ 31 by omega), nI_1, nI_le' (show R < 2 ^ 31 by omega) (show r + 1 < 2 ^ 31 by omega)]
  have fin1 : (r + 1 < R → sK s (r + 1) ≠ 3) → P none g (pv_st (pv_st (pv_st h o 3 (nI (clr (sD s) r R))) (o + 1) r (nI f)) (o + 3) r 1) := fun c => by
    refine base _ (fun a h0 h1 h3 => by rw [st_o h3, st_o h1, st_o h0]) (fun k hk => by rw [st_o (by omega), st_o (by omega), st_k hk]) (by rw [st_o (by omega), st_o (by omega), st_at]) (fun e he => ?_) (fun e he => ?_)
    · rw [st_o (by omega), ← P1 e he]
      by_cases z : e = r
      · subst z; rw [st_at, st_at]
      · rw [st_k z, st_k z, st_o (by omega)]
    · by_cases z : e = r
      · subst z; rw [st_at, if_pos rfl]; rfl
      · rw [st_k z, if_neg z, st_o (by omega), st_o (by omega), if_neg (fun y => c (by omega) (by rw [← y.1]; exact y.2))]
        exact S.2.2.1 e he
  refine ⟨fun c => fin1 (by omega), fun c => ?_⟩
  have e3 : pv_st (pv_st (pv_st h o 3 (nI (clr (sD s) r R))) (o + 1) r (nI f)) (o + 3) r 1 (o + 3) (r + 1) = nI (sK s (r + 1)) := by
    rw [st_k (by omega), st_o (by omega), st_o (by omega)]
    exact S.2.2.1 _ (by omega)
  have hk3 : (nI (sK s (r + 1)) = 3) = (sK s (r + 1) = 3) := nI_eq' (b := 3) (by have := hK (r + 1) (by omega); omega) (by decide)
  simp only [vp_nI (show r + 1 < 8 by omega) (show 8 < 2 ^ 31 by decide), nI_clamp (show r + 1 < 2 ^ 31 by omega), e3, hk3, true_and]
  refine ⟨fun c3 => fin1 (fun _ => c3), fun c3 => ?_⟩
  have c3 := Classical.not_not.mp c3
  refine base _ (fun a h0 h1 h3 => by rw [st_o h3, st_o h3, st_o h1, st_o h0]) (fun k hk => by rw [st_o (by omega), st_o (by omega), st_o (by omega), st_k hk]) (by rw [st_o (by omega), st_o (by omega), st_o (by omega), st_at]) (fun e he => ?_) (fun e he => ?_)
  · rw [st_o (by omega), st_o (by omega), ← P1 e he]
    by_cases z : e = r
    · subst z; rw [st_at, st_at]
    · rw [st_k z, st_k z, st_o (by omega)]
  · by_cases z : e = r + 1
    · subst z; rw [st_at, if_neg (by omega), if_pos ⟨rfl, c3⟩]; rfl
    · rw [st_k z]
      by_cases y : e = r
      · subst y; rw [st_at, if_pos rfl]; rfl
      · rw [st_k y, if_neg y, if_neg (fun w => z w.1), st_o (by omega), st_o (by omega)]
        exact S.2.2.1 e he
def ancB (x : SX) (r f : Nat) : Bool := !th (xS x) r && decide (2 ≤ citN x r) && decide (sH (xS x) ≤ f) && decide (wOf (tW (xT x)) (onF (xS x) f (tR (xT x))) (tR (xT x)) + tW (xT x) r ≤ tB (xT x) f)
def ancA (x : SX) (a b : Int32) : Int32 := if inr a (tR (xT x)) && inr b (tF (xT x)) then (if ancB x a.toNatClampNeg b.toNatClampNeg then nI (citN x a.toNatClampNeg) else -3) else -1
def ancX (x : SX) (a b : Int32) : SX := if inr a (tR (xT x)) && inr b (tF (xT x)) && ancB x a.toNatClampNeg b.toNatClampNeg then setNow (pushX x) (newS (xS x) a.toNatClampNeg b.toNatClampNeg (tR (xT x))) else x
theorem citN_le {x : SX} (O : okX x) (r : Nat) : citN x r ≤ 8 := by
  have h := sm_le (f := fun e => if (th (xS x) e && (tC (xT x) e).testBit r) = true then 1 else 0) (b := 1) (n := tR (xT x)) (fun e he => by
    show (if _ then 1 else 0) ≤ 1
    split <;> omega)
  have := O.R
  unfold citN
  omega
theorem oC71 {x : SX} (O : okX x) (a b : Int32) : OpC 5 71 [.int a, .int b] x (.int (ancA x a b)) (ancX x a b) := by
  intro d P g h ⟨rt, tt, q, G, C⟩ hP
  have hF := O.F
  have hR := O.R
  have hD := O.D
  unfold ancA ancX at hP
  cases hI : inr a (tR (xT x)) with
  | false =>
    rw [hI] at hP
    have hP := hP g h ⟨rt, tt, q, G, C⟩ FG.rf FC.rf
    simp only [e71, z71_0, z71_1, z71_2, z71_5, z71_8, z71_9, z71_10, z71_13, z71_16, z71_17, z71_18, z71_19, z71_23, z71_24, z71_25, z71_28, z71_29, z71_32, z71_35, z71_36, z71_37, z71_40, z71_42, z71_43, z71_44, z71_45, z71_48, z71_51, z71_54, z71_55, z71_56, z71_57, z71_60, z71_63, z71_64, z71_68, z71_71, z71_73, z71_74, z71_75, z71_78, z71_79, z71_85, z71_86, z71_89, z71_90, z71_91, z71_92, z71_95, z71_101, z71_102, pv_catN, pv_cat1, pv_cat2, pv_cat3, pv_catL, Option.toList, List.nil_append, List.cons_append, List.append_nil, pv_rfS, pn_i, pn_r, pn_n, pn_o, true_and, and_true, Nat.le_refl, and_self, true_implies, false_implies, not_true_eq_false, not_false_eq_true, pv_b0, pv_b01, pv_bn0, pv_b1, Bool.false_eq_true, Bool.true_eq_false, Bool.not_false, Bool.not_true, pv_bT, pv_bF, eq_self, G.o0, m86 G C O, hI]
    exact hP
  | true =>
    cases hJ : inr b (tF (xT x)) with
    | false =>
      rw [hI, hJ] at hP
      have hP := hP g h ⟨rt, tt, q, G, C⟩ FG.rf FC.rf
      simp only [e71, z71_0, z71_1, z71_2, z71_5, z71_8, z71_9, z71_10, z71_13, z71_16, z71_17, z71_18, z71_19, z71_23, z71_24, z71_25, z71_28, z71_29, z71_32, z71_35, z71_36, z71_37, z71_40, z71_42, z71_43, z71_44, z71_45, z71_48, z71_51, z71_54, z71_55, z71_56, z71_57, z71_60, z71_63, z71_64, z71_68, z71_71, z71_73, z71_74, z71_75, z71_78, z71_79, z71_85, z71_86, z71_89, z71_90, z71_91, z71_92, z71_95, z71_101, z71_102, pv_catN, pv_cat1, pv_cat2, pv_cat3, pv_catL, Option.toList, List.nil_append, List.cons_append, List.append_nil, pv_rfS, pn_i, pn_r, pn_n, pn_o, true_and, and_true, Nat.le_refl, and_self, true_implies, false_implies, not_true_eq_false, not_false_eq_true, pv_b0, pv_b01, pv_bn0, pv_b1, Bool.false_eq_true, Bool.true_eq_false, Bool.not_false, Bool.not_true, pv_bT, pv_bF, eq_self, G.o0, m86 G C O, m85 G C O, hI, hJ]
      exact hP
    | true =>
      obtain ⟨r, hr, rfl⟩ := inr_t hI
      obtain ⟨f, hf, rfl⟩ := inr_t hJ
      have hcr := nI_clamp (show r < 2 ^ 31 by omega)
      have hcf := nI_clamp (show f < 2 ^ 31 by omega)
      have hw := (O.T.2.2.2.1 r hr).2.1
      have hn := citN_le O r
      have hH := O.S.2.2.1
      rw [hI, hJ, hcr, hcf] at hP
      simp only [Bool.true_and, Bool.and_true, if_true] at hP
      have bad : ancB x r f = false → P (some (.int (-3))) g h := fun c => by
        rw [c] at hP
        exact hP g h ⟨rt, tt, q, G, C⟩ FG.rf FC.rf
      simp only [e71, z71_0, z71_1, z71_2, z71_5, z71_8, z71_9, z71_10, z71_13, z71_16, z71_17, z71_18, z71_19, z71_23, z71_24, z71_25, z71_28, z71_29, z71_32, z71_35, z71_36, z71_37, z71_40, z71_42, z71_43, z71_44, z71_45, z71_48, z71_51, z71_54, z71_55, z71_56, z71_57, z71_60, z71_63, z71_64, z71_68, z71_71, z71_73, z71_74, z71_75, z71_78, z71_79, z71_85, z71_86, z71_89, z71_90, z71_91, z71_92, z71_95, z71_101, z71_102, pv_catN, pv_cat1, pv_cat2, pv_cat3, pv_catL, Option.toList, List.nil_append, List.cons_append, List.append_nil, pv_rfS, pn_i, pn_r, pn_n, pn_o, true_and, and_true, Nat.le_refl, and_self, true_implies, false_implies, not_true_eq_false, not_false_eq_true, pv_b0, pv_b01, pv_bn0, pv_b1, Bool.false_eq_true, Bool.true_eq_false, Bool.not_false, Bool.not_true, pv_bT, pv_bF, eq_self, G.o0, m86 G C O, m85 G C O, hI, hJ]
      rw [z71_20 (by simp [pv_cat, Value.category]) (by decide)]
      refine ⟨G.o0, m89 G C O hr ?_⟩
      have hn2 : ((2 : Int32) ≤ nI (citN x r)) = (2 ≤ citN x r) := nI_le' (a := 2) (by decide) (by omega)
      simp only [z71_0, z71_1, z71_2, z71_5, z71_8, z71_9, z71_10, z71_13, z71_16, z71_17, z71_18, z71_19, z71_23, z71_24, z71_25, z71_28, z71_29, z71_32, z71_35, z71_36, z71_37, z71_40, z71_42, z71_43, z71_44, z71_45, z71_48, z71_51, z71_54, z71_55, z71_56, z71_57, z71_60, z71_63, z71_64, z71_68, z71_71, z71_73, z71_74, z71_75, z71_78, z71_79, z71_85, z71_86, z71_89, z71_90, z71_91, z71_92, z71_95, z71_101, z71_102, pv_catN, pv_cat1, pv_cat2, pv_cat3, pv_catL, Option.toList, List.nil_append, List.cons_append, List.append_nil, pv_rfS, pn_i, pn_r, pn_n, pn_o, true_and, and_true, Nat.le_refl, and_self, true_implies, false_implies, not_true_eq_false, not_false_eq_true, pv_b0, pv_b01, pv_bn0, pv_b1, Bool.false_eq_true, Bool.true_eq_false, Bool.not_false, Bool.not_true, pv_bT, pv_bF, eq_self, G.o0, G.r0_3, G.r0_4, G.S20.1, G.Tr.1, G.Tr.2.2.1, G.Tr.2.2.2.2.2.2.2.2.2.1, m42 G.S20 C.S hD (show r < 32 by omega), hn2, C.S.2.2.2.2.1, vp_nI (show r < 8 by omega) (show 8 < 2 ^ 31 by decide), hcr, C.T.2.2.2.1 r hr, nI_lt' (show f < 2 ^ 31 by omega) (show sH (xS x) < 2 ^ 31 by omega)]
      refine ⟨fun c => ?_, fun ct => ⟨fun c2 => ⟨fun ch => ?_, fun ch => ?_⟩, fun c2 => ?_⟩⟩
      · have c : th (xS x) r = true := by simpa using c
        exact bad (by unfold ancB; rw [c]; rfl)
      · exact bad (by unfold ancB; rw [decide_eq_false (show ¬ sH (xS x) ≤ f by omega)]; simp)
      · rw [z71_65 (by simp [pv_cat, Value.category]) (by decide)]
        refine ⟨G.o0, m88 G C O hf (by omega) ?_⟩
        cases hb : decide (wOf (tW (xT x)) (onF (xS x) f (tR (xT x))) (tR (xT x)) + tW (xT x) r ≤ tB (xT x) f) with
        | false =>
          simp only [z71_0, z71_1, z71_2, z71_5, z71_8, z71_9, z71_10, z71_13, z71_16, z71_17, z71_18, z71_19, z71_23, z71_24, z71_25, z71_28, z71_29, z71_32, z71_35, z71_36, z71_37, z71_40, z71_42, z71_43, z71_44, z71_45, z71_48, z71_51, z71_54, z71_55, z71_56, z71_57, z71_60, z71_63, z71_64, z71_68, z71_71, z71_73, z71_74, z71_75, z71_78, z71_79, z71_85, z71_86, z71_89, z71_90, z71_91, z71_92, z71_95, z71_101, z71_102, pv_catN, pv_cat1, pv_cat2, pv_cat3, pv_catL, Option.toList, List.nil_append, List.cons_append, List.append_nil, pv_rfS, pn_i, pn_r, pn_n, pn_o, true_and, and_true, Nat.le_refl, and_self, true_implies, false_implies, not_true_eq_false, not_false_eq_true, pv_b0, pv_b01, pv_bn0, pv_b1, Bool.false_eq_true, Bool.true_eq_false, Bool.not_false, Bool.not_true, pv_bT, pv_bF, eq_self]
          exact bad (by unfold ancB; rw [hb]; simp)
        | true =>
          have ct : th (xS x) r = false := by simpa using ct
          have hB : ancB x r f = true := by
            unfold ancB
            rw [ct, hb, decide_eq_true c2, decide_eq_true (show sH (xS x) ≤ f by omega)]
            rfl
          rw [hB] at hP
          simp only [if_true] at hP
          simp only [z71_0, z71_1, z71_2, z71_5, z71_8, z71_9, z71_10, z71_13, z71_16, z71_17, z71_18, z71_19, z71_23, z71_24, z71_25, z71_28, z71_29, z71_32, z71_35, z71_36, z71_37, z71_40, z71_42, z71_43, z71_44, z71_45, z71_48, z71_51, z71_54, z71_55, z71_56, z71_57, z71_60, z71_63, z71_64, z71_68, z71_71, z71_73, z71_74, z71_75, z71_78, z71_79, z71_85, z71_86, z71_89, z71_90, z71_91, z71_92, z71_95, z71_101, z71_102, pv_catN, pv_cat1, pv_cat2, pv_cat3, pv_catL, Option.toList, List.nil_append, List.cons_append, List.append_nil, pv_rfS, pn_i, pn_r, pn_n, pn_o, true_and, and_true, Nat.le_refl, and_self, true_implies, false_implies, not_true_eq_false, not_false_eq_true, pv_b0, pv_b01, pv_bn0, pv_b1, Bool.false_eq_true, Bool.true_eq_false, Bool.not_false, Bool.not_true, pv_bT, pv_bF, eq_self, G.o0, G.r0_6, G.r0_4]
          rw [z71_82 (by simp [pv_cat, Value.category]) (by decide)]
          refine ⟨G.o25, m1 G C O fun g1 h1 q1 G1 F1 f1 C1 => ?_⟩
          simp only [z71_0, z71_1, z71_2, z71_5, z71_8, z71_9, z71_10, z71_13, z71_16, z71_17, z71_18, z71_19, z71_23, z71_24, z71_25, z71_28, z71_29, z71_32, z71_35, z71_36, z71_37, z71_40, z71_42, z71_43, z71_44, z71_45, z71_48, z71_51, z71_54, z71_55, z71_56, z71_57, z71_60, z71_63, z71_64, z71_68, z71_71, z71_73, z71_74, z71_75, z71_78, z71_79, z71_85, z71_86, z71_89, z71_90, z71_91, z71_92, z71_95, z71_101, z71_102, pv_catN, pv_cat1, pv_cat2, pv_cat3, pv_catL, Option.toList, List.nil_append, List.cons_append, List.append_nil, pv_rfS, pn_i, pn_r, pn_n, pn_o, true_and, and_true, Nat.le_refl, and_self, true_implies, false_implies, not_true_eq_false, not_false_eq_true, pv_b0, pv_b01, pv_bn0, pv_b1, Bool.false_eq_true, Bool.true_eq_false, Bool.not_false, Bool.not_true, pv_bT, pv_bF, eq_self, G1.o0, G1.r0_4, G1.r0_3, G1.Tr.1, C1.T.2.2.1]
          rw [z71_98 (by simp [pv_cat, Value.category]) (by decide)]
          refine ⟨G1.S20.1, m50 (R := tR (xT x)) (s := xS x) G1.S20 C1.S hR hr O.S.2.1 (fun e he => (O.S.1 e he).2.2) fun h2 f2 S2 => ?_⟩
          simp only [z71_0, z71_1, z71_2, z71_5, z71_8, z71_9, z71_10, z71_13, z71_16, z71_17, z71_18, z71_19, z71_20, z71_23, z71_24, z71_25, z71_28, z71_29, z71_32, z71_35, z71_36, z71_37, z71_40, z71_42, z71_43, z71_44, z71_45, z71_48, z71_51, z71_54, z71_55, z71_56, z71_57, z71_60, z71_63, z71_64, z71_65, z71_68, z71_71, z71_73, z71_74, z71_75, z71_78, z71_79, z71_82, z71_85, z71_86, z71_89, z71_90, z71_91, z71_92, z71_95, z71_98, z71_101, z71_102, pv_catN, pv_cat1, pv_cat2, pv_cat3, pv_catL, Option.toList, List.nil_append, List.cons_append, List.append_nil, pv_rfS, pn_i, pn_r, pn_n, pn_o, true_and, and_true, Nat.le_refl, and_self, true_implies, false_implies, not_true_eq_false, not_false_eq_true, pv_b0, pv_b01, pv_bn0, pv_b1, Bool.false_eq_true, Bool.true_eq_false, Bool.not_false, Bool.not_true, pv_bT, pv_bF, eq_self]
          exact hP g1 h2 ⟨rt, tt, q1, G1, cC.now (x := pushX x) G1 C1 O.push (fun o h1 h2 h3 h4 => f2 o (by omega)) S2⟩ F1 (fun o ho => by rw [f2 o (by omega), f1 o (by omega)])
      · exact bad (by unfold ancB; rw [decide_eq_false c2]; simp)
theorem oM137 {x : SX} (O : okX x) (a b : Int32) : OpM 3 137 [.int a, .int b] x (.int (ancA x a b)) (ancX x a b) := by
  intro d P g h ⟨G, M0⟩ hP
  have M := M0.t0
  have hF := O.F
  have hR := O.R
  unfold ancA ancX at hP
  cases hI : inr a (tR (xT x)) with
  | false =>
    rw [hI] at hP
    have hP := hP _ ⟨G, M⟩ (FM.rf.st (by omega))
    simp only [e137, z137_0, z137_1, z137_2, z137_5, z137_6, z137_7, z137_10, z137_13, z137_14, z137_15, z137_18, z137_21, z137_22, z137_23, z137_24, z137_28, z137_29, z137_30, z137_33, z137_34, z137_35, z137_38, z137_39, z137_40, z137_43, z137_44, z137_45, z137_48, z137_51, z137_52, z137_53, z137_60, z137_61, z137_64, z137_65, z137_66, z137_67, z137_68, z137_71, z137_72, z137_73, z137_76, z137_78, z137_79, z137_83, z137_84, z137_87, z137_88, z137_89, z137_90, z137_91, z137_94, z137_95, z137_96, z137_97, z137_98, z137_101, z137_102, z137_103, z137_104, z137_105, z137_106, z137_107, z137_108, z137_111, z137_114, z137_115, z137_118, z137_119, z137_120, z137_121, z137_122, z137_123, z137_126, z137_127, z137_130, z137_131, z137_132, z137_133, z137_134, z137_135, z137_136, pv_catN, pv_cat1, pv_cat2, pv_cat3, pv_catL, Option.toList, List.nil_append, List.cons_append, List.append_nil, pv_rfS, pn_i, pn_r, pn_n, pn_o, true_and, and_true, Nat.le_refl, and_self, true_implies, false_implies, not_true_eq_false, not_false_eq_true, pv_b0, pv_b01, pv_bn0, pv_b1, Bool.false_eq_true, Bool.true_eq_false, Bool.not_false, Bool.not_true, pv_bT, pv_bF, eq_self, G.o, m102 G M O, hI]
    exact hP
  | true =>
    cases hJ : inr b (tF (xT x)) with
    | false =>
      rw [hI, hJ] at hP
      have hP := hP _ ⟨G, M⟩ (FM.rf.st (by omega))
      simp only [e137, z137_0, z137_1, z137_2, z137_5, z137_6, z137_7, z137_10, z137_13, z137_14, z137_15, z137_18, z137_21, z137_22, z137_23, z137_24, z137_28, z137_29, z137_30, z137_33, z137_34, z137_35, z137_38, z137_39, z137_40, z137_43, z137_44, z137_45, z137_48, z137_51, z137_52, z137_53, z137_60, z137_61, z137_64, z137_65, z137_66, z137_67, z137_68, z137_71, z137_72, z137_73, z137_76, z137_78, z137_79, z137_83, z137_84, z137_87, z137_88, z137_89, z137_90, z137_91, z137_94, z137_95, z137_96, z137_97, z137_98, z137_101, z137_102, z137_103, z137_104, z137_105, z137_106, z137_107, z137_108, z137_111, z137_114, z137_115, z137_118, z137_119, z137_120, z137_121, z137_122, z137_123, z137_126, z137_127, z137_130, z137_131, z137_132, z137_133, z137_134, z137_135, z137_136, pv_catN, pv_cat1, pv_cat2, pv_cat3, pv_catL, Option.toList, List.nil_append, List.cons_append, List.append_nil, pv_rfS, pn_i, pn_r, pn_n, pn_o, true_and, and_true, Nat.le_refl, and_self, true_implies, false_implies, not_true_eq_false, not_false_eq_true, pv_b0, pv_b01, pv_bn0, pv_b1, Bool.false_eq_true, Bool.true_eq_false, Bool.not_false, Bool.not_true, pv_bT, pv_bF, eq_self, G.o, m102 G M O, m103 G M O, hI, hJ]
      exact hP
    | true =>
      obtain ⟨r, hr, rfl⟩ := inr_t hI
      obtain ⟨f, hf, rfl⟩ := inr_t hJ
      have hcr := nI_clamp (show r < 2 ^ 31 by omega)
      have hcf := nI_clamp (show f < 2 ^ 31 by omega)
      have hw := (O.T.2.2.2.1 r hr).2.1
      have hn := citN_le O r
      have hH := O.S.2.2.1
      have hB := O.T.2.2.2.2 f hf
      have hw2 := O.W (onF (xS x) f (tR (xT x)))
      rw [hI, hJ, hcr, hcf] at hP
      simp only [Bool.true_and, Bool.and_true, if_true] at hP
      simp only [e137, z137_0, z137_1, z137_2, z137_5, z137_6, z137_7, z137_10, z137_13, z137_14, z137_15, z137_18, z137_21, z137_22, z137_23, z137_24, z137_28, z137_29, z137_30, z137_33, z137_34, z137_35, z137_38, z137_39, z137_40, z137_43, z137_44, z137_45, z137_48, z137_51, z137_52, z137_53, z137_60, z137_61, z137_64, z137_65, z137_66, z137_67, z137_68, z137_71, z137_72, z137_73, z137_76, z137_78, z137_79, z137_83, z137_84, z137_87, z137_88, z137_89, z137_90, z137_91, z137_94, z137_95, z137_96, z137_97, z137_98, z137_101, z137_102, z137_103, z137_104, z137_105, z137_106, z137_107, z137_108, z137_111, z137_114, z137_115, z137_118, z137_119, z137_120, z137_121, z137_122, z137_123, z137_126, z137_127, z137_130, z137_131, z137_132, z137_133, z137_134, z137_135, z137_136, pv_catN, pv_cat1, pv_cat2, pv_cat3, pv_catL, Option.toList, List.nil_append, List.cons_append, List.append_nil, pv_rfS, pn_i, pn_r, pn_n, pn_o, true_and, and_true, Nat.le_refl, and_self, true_implies, false_implies, not_true_eq_false, not_false_eq_true, pv_b0, pv_b01, pv_bn0, pv_b1, Bool.false_eq_true, Bool.true_eq_false, Bool.not_false, Bool.not_true, pv_bT, pv_bF, eq_self, G.o, m102 G M O, m103 G M O, hI, hJ]
      generalize hh : pv_st h 102 0 0 = h0 at M hP
      have F0 : FM h h0 := hh ▸ FM.rf.st (by omega)
      have bad : ancB x r f = false → P (some (.int (-3))) g h0 := fun c => by
        rw [c] at hP
        exact hP h0 ⟨G, M⟩ F0
      rw [z137_25 (by simp [pv_cat, Value.category]) (by decide)]
      refine ⟨G.o, m136 G M O hr ?_⟩
      have hn2 : (nI (citN x r) < (2 : Int32)) = (citN x r < 2) := nI_lt' (b := 2) (by omega) (by decide)
      simp only [z137_0, z137_1, z137_2, z137_5, z137_6, z137_7, z137_10, z137_13, z137_14, z137_15, z137_18, z137_21, z137_22, z137_23, z137_24, z137_28, z137_29, z137_30, z137_33, z137_34, z137_35, z137_38, z137_39, z137_40, z137_43, z137_44, z137_45, z137_48, z137_51, z137_52, z137_53, z137_60, z137_61, z137_64, z137_65, z137_66, z137_67, z137_68, z137_71, z137_72, z137_73, z137_76, z137_78, z137_79, z137_83, z137_84, z137_87, z137_88, z137_89, z137_90, z137_91, z137_94, z137_95, z137_96, z137_97, z137_98, z137_101, z137_102, z137_103, z137_104, z137_105, z137_106, z137_107, z137_108, z137_111, z137_114, z137_115, z137_118, z137_119, z137_120, z137_121, z137_122, z137_123, z137_126, z137_127, z137_130, z137_131, z137_132, z137_133, z137_134, z137_135, z137_136, pv_catN, pv_cat1, pv_cat2, pv_cat3, pv_catL, Option.toList, List.nil_append, List.cons_append, List.append_nil, pv_rfS, pn_i, pn_r, pn_n, pn_o, true_and, and_true, Nat.le_refl, and_self, true_implies, false_implies, not_true_eq_false, not_false_eq_true, pv_b0, pv_b01, pv_bn0, pv_b1, Bool.false_eq_true, Bool.true_eq_false, Bool.not_false, Bool.not_true, pv_bT, pv_bF, eq_self, G.o, G.r12, G.t110, hn2, M.M.H, M.M.D r hr, vp_nI (show r < 8 by omega) (show 8 < 2 ^ 31 by decide), hcr, nI_lt' (show f < 2 ^ 31 by omega) (show sH (xS x) < 2 ^ 31 by omega)]
      refine ⟨fun c => ?_, fun ct => ⟨fun c2 => ?_, fun c2 => ⟨fun ch => ?_, fun ch => ?_⟩⟩⟩
      · exact bad (by unfold ancB th; rw [c]; rfl)
      · exact bad (by unfold ancB; rw [decide_eq_false (show ¬ 2 ≤ citN x r by omega)]; simp)
      · exact bad (by unfold ancB; rw [decide_eq_false (show ¬ sH (xS x) ≤ f by omega)]; simp)
      · have ct : (sD (xS x)).testBit r = true := by simpa using ct
        rw [z137_54 (by simp [pv_cat, Value.category]) (by decide)]
        refine ⟨G.o, m122 G M.M hR (by omega) O.p31 ?_⟩
        simp only [Option.toList, List.cons_append, List.nil_append]
        rw [z137_57 (by simp [pv_cat, Value.category]) (by decide)]
        refine ⟨G.o, m123 G M.M hR (O.on f) ?_⟩
        simp only [z137_0, z137_1, z137_2, z137_5, z137_6, z137_7, z137_10, z137_13, z137_14, z137_15, z137_18, z137_21, z137_22, z137_23, z137_24, z137_28, z137_29, z137_30, z137_33, z137_34, z137_35, z137_38, z137_39, z137_40, z137_43, z137_44, z137_45, z137_48, z137_51, z137_52, z137_53, z137_60, z137_61, z137_64, z137_65, z137_66, z137_67, z137_68, z137_71, z137_72, z137_73, z137_76, z137_78, z137_79, z137_83, z137_84, z137_87, z137_88, z137_89, z137_90, z137_91, z137_94, z137_95, z137_96, z137_97, z137_98, z137_101, z137_102, z137_103, z137_104, z137_105, z137_106, z137_107, z137_108, z137_111, z137_114, z137_115, z137_118, z137_119, z137_120, z137_121, z137_122, z137_123, z137_126, z137_127, z137_130, z137_131, z137_132, z137_133, z137_134, z137_135, z137_136, pv_catN, pv_cat1, pv_cat2, pv_cat3, pv_catL, Option.toList, List.nil_append, List.cons_append, List.append_nil, pv_rfS, pn_i, pn_r, pn_n, pn_o, true_and, and_true, Nat.le_refl, and_self, true_implies, false_implies, not_true_eq_false, not_false_eq_true, pv_b0, pv_b01, pv_bn0, pv_b1, Bool.false_eq_true, Bool.true_eq_false, Bool.not_false, Bool.not_true, pv_bT, pv_bF, eq_self, G.o, G.r7, G.t105, G.r5, G.t104, vp_nI (show r < 8 by omega) (show 8 < 2 ^ 31 by decide), hcr, M.M.W r hr, vp_nI (show f < 5 by omega) (show 5 < 2 ^ 31 by decide), hcf, M.M.B f hf, nI_add, nI_le' (show wOf (tW (xT x)) (onF (xS x) f (tR (xT x))) (tR (xT x)) + tW (xT x) r < 2 ^ 31 by omega) (show tB (xT x) f < 2 ^ 31 by omega)]
        refine ⟨fun hb => ?_, fun hb => ?_⟩
        · have hB : ancB x r f = true := by
            unfold ancB th
            rw [ct, decide_eq_true hb, decide_eq_true (show 2 ≤ citN x r by omega), decide_eq_true (show sH (xS x) ≤ f by omega)]
            rfl
          rw [hB] at hP
          simp only [if_true] at hP
          rw [z137_80 (by simp [pv_cat, Value.category]) (by decide)]
          refine ⟨G.o, m130 G M O fun h2 g1 g2 M2 => ?_⟩
          have base : ∀ h' : PvH, (∀ a, a ≠ 108 → a ≠ 109 → a ≠ 110 → h' a = h2 a) → (∀ e, e < tR (xT x) → h' 108 e = nI (if e = r then 1 else if e = r + 1 ∧ sK (xS x) e = 3 then 0 else sK (xS x) e)) → (∀ e, e < tR (xT x) → h' 109 e = nI (updN (sP (xS x)) r f e)) → (∀ e, e < tR (xT x) → h' 110 e = pv_b ((sD (xS x)).testBit e && !decide (e = r))) → P (some (.int (nI (citN x r)))) g h' := by
            intro h' k1 c8 c9 c10
            refine hP _ ⟨G, cM.now (x := pushX x) M2 (fun o z1 _ z3 z4 z5 => k1 o z3 z4 z5) (fun k hk => by rw [k1 102 (by omega) (by omega) (by omega)]) ?_ c8 c9 ?_ ?_ ?_ ?_⟩ (fun o ho => by rw [k1 o (by omega) (by omega) (by omega), g1 o (by omega) (by omega)]; exact F0 o ho)
            · intro e he; rw [k1 _ (by omega) (by omega) (by omega)]; exact M2.M.V e he
            · intro e he
              have he : e < tR (xT x) := he
              rw [c10 e he]
              show _ = pv_b ((clr (sD (xS x)) r (tR (xT x))).testBit e)
              rw [clr_bit he]
            · rw [k1 _ (by omega) (by omega) (by omega)]; exact M2.M.H
            · rw [k1 _ (by omega) (by omega) (by omega)]; exact M2.M.E
            · rw [k1 _ (by omega) (by omega) (by omega)]; exact M2.M.L
          have eK : ∀ e, e < tR (xT x) → h2 108 e = nI (sK (xS x) e) := fun e he => M2.M.K e he
          have eP : ∀ e, e < tR (xT x) → h2 109 e = nI (sP (xS x) e) := fun e he => M2.M.P e he
          have eD : ∀ e, e < tR (xT x) → h2 110 e = pv_b ((sD (xS x)).testBit e) := fun e he => M2.M.D e he
          have D1 : ∀ e, e < tR (xT x) → pv_st h2 110 r 0 110 e = pv_b ((sD (xS x)).testBit e && !decide (e = r)) := fun e he => by
            by_cases c : e = r
            · subst c; rw [st_at]; simp [pv_b]
            · rw [st_k c, eD e he, decide_eq_false c]; simp
          have P1 : ∀ e, e < tR (xT x) → pv_st (pv_st h2 110 r 0) 109 r (nI f) 109 e = nI (updN (sP (xS x)) r f e) := fun e he => by
            unfold updN
            by_cases c : e = r
            · subst c; rw [st_at, if_pos rfl]
            · rw [st_k c, st_o (by omega), if_neg c]; exact eP e he
          have fin1 : (r + 1 < tR (xT x) → sK (xS x) (r + 1) ≠ 3) → P (some (.int (nI (citN x r)))) g (pv_st (pv_st (pv_st h2 110 r 0) 109 r (nI f)) 108 r 1) := fun c => by
            refine base _ (fun a z8 z9 z10 => by rw [st_o z8, st_o z9, st_o z10]) (fun e he => ?_) (fun e he => by rw [st_o (by omega)]; exact P1 e he) (fun e he => by rw [st_o (by omega), st_o (by omega)]; exact D1 e he)
            by_cases z : e = r
            · subst z; rw [st_at, if_pos rfl]; rfl
            · rw [st_k z, if_neg z, st_o (by omega), st_o (by omega), if_neg (fun y => c (by omega) (by rw [← y.1]; exact y.2))]
              exact eK e he
          have e6 : h2 102 6 = nI (tR (xT x)) := M2.M.R
          simp only [z137_0, z137_1, z137_2, z137_5, z137_6, z137_7, z137_10, z137_13, z137_14, z137_15, z137_18, z137_21, z137_22, z137_23, z137_24, z137_28, z137_29, z137_30, z137_33, z137_34, z137_35, z137_38, z137_39, z137_40, z137_43, z137_44, z137_45, z137_48, z137_51, z137_52, z137_53, z137_60, z137_61, z137_64, z137_65, z137_66, z137_67, z137_68, z137_71, z137_72, z137_73, z137_76, z137_78, z137_79, z137_83, z137_84, z137_87, z137_88, z137_89, z137_90, z137_91, z137_94, z137_95, z137_96, z137_97, z137_98, z137_101, z137_102, z137_103, z137_104, z137_105, z137_106, z137_107, z137_108, z137_111, z137_114, z137_115, z137_118, z137_119, z137_120, z137_121, z137_122, z137_123, z137_126, z137_127, z137_130, z137_131, z137_132, z137_133, z137_134, z137_135, z137_136, pv_catN, pv_cat1, pv_cat2, pv_cat3, pv_catL, Option.toList, List.nil_append, List.cons_append, List.append_nil, pv_rfS, pn_i, pn_r, pn_n, pn_o, true_and, and_true, Nat.le_refl, and_self, true_implies, false_implies, not_true_eq_false, not_false_eq_true, pv_b0, pv_b01, pv_bn0, pv_b1, Bool.false_eq_true, Bool.true_eq_false, Bool.not_false, Bool.not_true, pv_bT, pv_bF, eq_self, G.o, G.r12, G.t110, G.r11, G.t109, G.r10, G.t108, vp_nI (show r < 8 by omega) (show 8 < 2 ^ 31 by decide), hcr, nI_1, st_o (show (102 : Nat) ≠ 108 by omega), st_o (show (102 : Nat) ≠ 109 by omega), st_o (show (102 : Nat) ≠ 110 by omega), e6, nI_le' (show tR (xT x) < 2 ^ 31 by omega) (show r + 1 < 2 ^ 31 by omega)]
          refine ⟨Or.inl trivial, fun c => fin1 (by omega), fun c => ?_⟩
          have e3 : pv_st (pv_st (pv_st h2 110 r 0) 109 r (nI f)) 108 r 1 108 (r + 1) = nI (sK (xS x) (r + 1)) := by
            rw [st_k (by omega), st_o (by omega), st_o (by omega)]
            exact eK _ (by omega)
          have hk3 : (nI (sK (xS x) (r + 1)) = 3) = (sK (xS x) (r + 1) = 3) := nI_eq' (b := 3) (by have := O.K3 (r + 1) (by omega); omega) (by decide)
          simp only [vp_nI (show r + 1 < 8 by omega) (show 8 < 2 ^ 31 by decide), nI_clamp (show r + 1 < 2 ^ 31 by omega), e3, hk3, true_and]
          refine ⟨fun c3 => fin1 (fun _ => c3), fun c3 => ?_⟩
          have c3 := Classical.not_not.mp c3
          refine base _ (fun a z8 z9 z10 => by rw [st_o z8, st_o z8, st_o z9, st_o z10]) (fun e he => ?_) (fun e he => by rw [st_o (by omega), st_o (by omega)]; exact P1 e he) (fun e he => by rw [st_o (by omega), st_o (by omega), st_o (by omega)]; exact D1 e he)
          by_cases z : e = r + 1
          · subst z; rw [st_at, if_neg (by omega), if_pos ⟨rfl, c3⟩]; rfl
          · rw [st_k z]
            by_cases y : e = r
            · subst y; rw [st_at, if_pos rfl]; rfl
            · rw [st_k y, if_neg y, if_neg (fun w => z w.1), st_o (by omega), st_o (by omega)]
              exact eK e he
        · exact bad (by unfold ancB; rw [decide_eq_false hb]; simp)
