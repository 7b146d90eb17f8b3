/-! a diver's hour -/
def dTen (s : SS) (r : Nat) : Nat := if sK s r = 1 then 10 else 10 - 2 * (sH s - sP s r)
def dTk (t : ST) (s : SS) (set n : Nat) : Nat := sm (fun r => if set.testBit r then 2 * (sH s - sP s r) + tW t r else 0) n
def dBr (s : SS) (set n : Nat) : Nat := sm (fun r => if set.testBit r then dTen s r * (if sK s r = 2 then 0 else sV s r) else 0) n
def dSub (s : SS) (set : Nat) : Bool := decide (set &&& (2 ^ 32 - (sD s + 1)) = 0)
def dGo (t : ST) (s : SS) (m set : Nat) (b : Nat × Nat × Nat) : Bool := decide (dTk t s set (tR t) ≤ m ∧ (b.1 < dBr s set (tR t) ∨ (dBr s set (tR t) = b.1 ∧ dTk t s set (tR t) < b.2.1)))
def dBst (t : ST) (s : SS) (m set : Nat) (b : Nat × Nat × Nat) : Nat × Nat × Nat := if (dSub s set && dGo t s m set b) = true then (dBr s set (tR t), dTk t s set (tR t), set) else b
def dv (t : ST) (s : SS) (m : Nat) : Nat → Nat × Nat × Nat
  | 0 => (0, 0, 0)
  | k + 1 => dBst t s m (k + 1) (dv t s m k)
theorem dTk_le {t : ST} {s : SS} (T : okT t) (S : okS t s) (set : Nat) {n : Nat} (hn : n ≤ tR t) : dTk t s set n ≤ 152 := by
  have hH := S.2.2.1
  have hF := T.2.1
  have h := sm_le (f := fun r => if set.testBit r then 2 * (sH s - sP s r) + tW t r else 0) (b := 19) (n := n) (fun r hr => by
    have := (T.2.2.2.1 r (by omega)).2.1
    show (if set.testBit r then 2 * (sH s - sP s r) + tW t r else 0) ≤ 19
    split <;> omega)
  have := T.2.2.1
  unfold dTk
  omega
theorem dTen_le (s : SS) (r : Nat) : dTen s r ≤ 10 := by
  unfold dTen
  split <;> omega
theorem dBr_le {t : ST} {s : SS} (T : okT t) (S : okS t s) (set : Nat) {n : Nat} (hn : n ≤ tR t) : dBr s set n ≤ 720 := by
  have h := sm_le (f := fun r => if set.testBit r then dTen s r * (if sK s r = 2 then 0 else sV s r) else 0) (b := 90) (n := n) (fun r hr => by
    have h1 := (S.1 r (by omega)).2.1
    have h2 := dTen_le s r
    show (if set.testBit r then dTen s r * (if sK s r = 2 then 0 else sV s r) else 0) ≤ 90
    split
    · exact Nat.le_trans (Nat.mul_le_mul h2 (show (if sK s r = 2 then 0 else sV s r) ≤ 9 by split <;> omega)) (by decide)
    · omega)
  have := T.2.2.1
  unfold dBr
  omega
theorem dv_le {t : ST} {s : SS} (T : okT t) (S : okS t s) (m : Nat) : ∀ k, (dv t s m k).1 ≤ 720 ∧ (dv t s m k).2.1 ≤ 152 ∧ (dv t s m k).2.2 ≤ k
  | 0 => ⟨Nat.zero_le _, Nat.zero_le _, Nat.le_refl _⟩
  | k + 1 => by
    have ih := dv_le T S m k
    have e : dv t s m (k + 1) = dBst t s m (k + 1) (dv t s m k) := rfl
    rw [e]
    generalize dv t s m k = b at ih
    unfold dBst
    split
    · exact ⟨dBr_le T S _ (Nat.le_refl _), dTk_le T S _ (Nat.le_refl _), Nat.le_refl _⟩
    · exact ⟨ih.1, ih.2.1, Nat.le_succ_of_le ih.2.2⟩
theorem not_D : ∀ D, D < 256 → nI D ^^^ (-1) = nI (2 ^ 32 - (D + 1)) := by decide +kernel
theorem dSub_t {s : SS} {set r : Nat} (hD : sD s < 256) (h : dSub s set = true) (hr : r < 32) (hb : set.testBit r = true) : (sD s).testBit r = true := by
  have h := of_decide_eq_true h
  have e : (set &&& (2 ^ 32 - (sD s + 1))).testBit r = false := by rw [h]; exact Nat.zero_testBit r
  rw [Nat.testBit_and, hb, Nat.testBit_two_pow_sub_succ (by omega), decide_eq_true hr] at e
  cases z : (sD s).testBit r with
  | true => rfl
  | false => rw [z] at e; exact absurd e (by decide)
theorem dSub_f {s : SS} {set R : Nat} (hD : sD s < 256) (hs : set < 2 ^ R) (hR : R ≤ 8) (h : dSub s set = false) : ∃ r, r < R ∧ set.testBit r = true ∧ (sD s).testBit r = false := by
  refine Classical.byContradiction fun hn => ?_
  have h := of_decide_eq_false h
  refine h (Nat.eq_of_testBit_eq fun r => ?_)
  rw [Nat.zero_testBit, Nat.testBit_and]
  by_cases c : r < R
  · cases z : set.testBit r with
    | false => rfl
    | true =>
      cases y : (sD s).testBit r with
      | false => exact absurd ⟨r, c, z, y⟩ hn
      | true => rw [Nat.testBit_two_pow_sub_succ (by omega), y]; simp
  · rw [Nat.testBit_lt_two_pow (Nat.lt_of_lt_of_le hs (Nat.pow_le_pow_right (by decide) (show R ≤ r by omega)))]
    rfl
def hDv (h : PvH) (o k : Nat) (b : Nat × Nat × Nat) : Prop := h o k = nI b.1 ∧ h o (k + 1) = nI b.2.1 ∧ h o (k + 2) = nI b.2.2
theorem mx10 : ∀ e, e < 6 → (if (0 : Int32) < 10 - 2 * nI e then 10 - 2 * nI e else 0) = nI (10 - 2 * e) := by decide +kernel
theorem m10 {d : Nat} {P : PvP} {g : PvG} {h : PvH} {k e : Nat} (hk : k ≤ 3) (he : e < 6) : pv_run (d + 1) 10 [.int (nI k), .int (nI e)] g h P = P (some (.int (nI (if k = 1 then 10 else 10 - 2 * e)))) g h := by
  have hk1 : (nI k = 1) = (k = 1) := nI_eq' (b := 1) (by omega) (by decide)
  simp only [e10, z10_0, z10_1, z10_2, z10_5, z10_7, z10_10, z10_11, z10_13, z10_14, z10_15, z10_16, z10_17, z10_20, pv_catN, pv_cat1, pv_cat2, pv_cat3, pv_catL, Option.toList, List.nil_append, List.cons_append, List.append_nil, pv_rfS, pn_i, pn_r, pn_n, pn_o, true_and, and_true, Nat.le_refl, and_self, true_implies, false_implies, not_true_eq_false, not_false_eq_true, pv_b0, pv_b01, pv_bn0, pv_b1, Bool.false_eq_true, Bool.true_eq_false, Bool.not_false, Bool.not_true, pv_bT, pv_bF, eq_self, hk1, mx10 e he]
  by_cases c : k = 1
  · simp [c]; rfl
  · simp [c]
set_option maxHeartbeats 1000000 in
theorem m9 {d : Nat} {P : PvP} {g : PvG} {h : PvH} {rt tt : Nat} {q : Nat → Nat} {x : SX} (G : gC g rt tt q) (C : cC h rt q x) (O : okX x) {set m : Nat} {b : Nat × Nat × Nat} (hs : set < 256) (hm : m ≤ 99) (hsub : ∀ r, r < tR (xT x) → set.testBit r = true → sP (xS x) r < sH (xS x)) (B : hDv h 101 0 b) (hb1 : b.1 ≤ 720) (hb2 : b.2.1 ≤ 152) (hP : ∀ h' : PvH, (∀ o, o ≠ 101 → h' o = h o) → hDv h' 101 0 (if dGo (xT x) (xS x) m set b then (dBr (xS x) set (tR (xT x)), dTk (xT x) (xS x) set (tR (xT x)), set) else b) → P none g h') : pv_run (d + 2) 9 [.ref 101, .ref rt, .ref 20, .int (nI set), .int (nI m)] g h P := by
  have hR := O.R
  have hF := O.F
  have hH := O.S.2.2.1
  have hTk := dTk_le O.T O.S set (Nat.le_refl (tR (xT x)))
  have hBr := dBr_le O.T O.S set (Nat.le_refl (tR (xT x)))
  have tail : ∀ w w7 : Option Value, pv_E (d + 1) 9 P 104 [some (.ref 101), some (.ref rt), some (.ref 20), some (.int (nI set)), some (.int (nI m)), some (.int (nI (dTk (xT x) (xS x) set (tR (xT x))))), some (.int (nI (dBr (xS x) set (tR (xT x))))), w7, w] [] 0 0 g h := by
    intro w w7
    simp only [z9_0, z9_1, z9_3, z9_4, z9_6, z9_7, z9_11, z9_12, z9_15, z9_18, z9_19, z9_21, z9_24, z9_27, z9_28, z9_31, z9_32, z9_35, z9_37, z9_38, z9_39, z9_41, z9_43, z9_44, z9_46, z9_47, z9_48, z9_51, z9_53, z9_54, z9_55, z9_56, z9_58, z9_60, z9_61, z9_64, z9_66, z9_67, z9_69, z9_72, z9_73, z9_76, z9_78, z9_79, z9_80, z9_83, z9_84, z9_87, z9_88, z9_91, z9_93, z9_94, z9_95, z9_96, z9_98, z9_101, z9_104, z9_106, z9_107, z9_110, z9_113, z9_115, z9_116, z9_119, z9_122, z9_124, z9_125, z9_128, z9_131, z9_132, z9_135, z9_136, z9_138, z9_140, z9_142, z9_145, z9_147, z9_150, z9_151, z9_153, z9_156, z9_157, z9_159, z9_162, z9_163, z9_164, z9_167, pv_catN, pv_cat1, pv_cat2, pv_cat3, pv_catL, Option.toList, List.nil_append, List.cons_append, List.append_nil, pv_rfS, pn_i, pn_r, pn_n, pn_o, true_and, and_true, Nat.le_refl, and_self, true_implies, false_implies, not_true_eq_false, not_false_eq_true, pv_b0, pv_b01, pv_bn0, pv_b1, Bool.false_eq_true, Bool.true_eq_false, Bool.not_false, Bool.not_true, pv_bT, pv_bF, eq_self, G.o101, B.1, show h 101 1 = nI b.2.1 from B.2.1, show ((1 : Int32) = 0) = False from eq_false (by decide), nI_lt' (show b.1 < 2 ^ 31 by omega) (show dBr (xS x) set (tR (xT x)) < 2 ^ 31 by omega), nI_eq' (show dBr (xS x) set (tR (xT x)) < 2 ^ 31 by omega) (show b.1 < 2 ^ 31 by omega), nI_le' (show b.2.1 < 2 ^ 31 by omega) (show dTk (xT x) (xS x) set (tR (xT x)) < 2 ^ 31 by omega), nI_lt' (show m < 2 ^ 31 by omega) (show dTk (xT x) (xS x) set (tR (xT x)) < 2 ^ 31 by omega)]
    have keep : ¬ (dTk (xT x) (xS x) set (tR (xT x)) ≤ m ∧ (b.1 < dBr (xS x) set (tR (xT x)) ∨ (dBr (xS x) set (tR (xT x)) = b.1 ∧ dTk (xT x) (xS x) set (tR (xT x)) < b.2.1))) → P none g h := fun c => hP h (fun _ _ => rfl) (by unfold dGo; rw [decide_eq_false c]; exact B)
    have take : (dTk (xT x) (xS x) set (tR (xT x)) ≤ m ∧ (b.1 < dBr (xS x) set (tR (xT x)) ∨ (dBr (xS x) set (tR (xT x)) = b.1 ∧ dTk (xT x) (xS x) set (tR (xT x)) < b.2.1))) → P none g (pv_st (pv_st (pv_st h 101 0 (nI (dBr (xS x) set (tR (xT x))))) 101 1 (nI (dTk (xT x) (xS x) set (tR (xT x))))) 101 2 (nI set)) := fun c => by
      refine hP _ (fun o ho => by rw [st_o ho, st_o ho, st_o ho]) ?_
      unfold dGo
      rw [decide_eq_true c, if_pos rfl]
      exact ⟨by rw [st_k (by omega), st_k (by omega), st_at], by rw [st_k (by omega), st_at], by rw [st_at]⟩
    refine ⟨fun c1 => ⟨fun c2 => keep (by omega), fun c2 => take (by omega)⟩, fun c1 => ⟨fun c2 => ⟨fun c3 => keep (by omega), fun c3 => keep (by omega)⟩, fun c2 => ⟨fun c3 => ⟨fun c4 => keep (by omega), fun c4 => keep (by omega)⟩, fun c3 => ⟨fun c4 => keep (by omega), fun c4 => take (by omega)⟩⟩⟩⟩
  have loop : ∀ n r (w : Option Value), r + n = tR (xT x) → pv_E (d + 1) 9 P 9 [some (.ref 101), some (.ref rt), some (.ref 20), some (.int (nI set)), some (.int (nI m)), some (.int (nI (dTk (xT x) (xS x) set r))), some (.int (nI (dBr (xS x) set r))), some (.int (nI r)), w] [] 0 0 g h := by
    intro n
    induction n with
    | zero =>
      intro r w hr
      have hr : r = tR (xT x) := hr
      subst hr
      rw [z9_9]
      simp only [z9_11, z9_12, z9_15, pv_catN, pv_cat1, pv_cat2, pv_cat3, pv_catL, Option.toList, List.nil_append, List.cons_append, List.append_nil, pv_rfS, pn_i, pn_r, pn_n, pn_o, true_and, and_true, Nat.le_refl, and_self, true_implies, false_implies, not_true_eq_false, not_false_eq_true, pv_b0, pv_b01, pv_bn0, pv_b1, Bool.false_eq_true, Bool.true_eq_false, Bool.not_false, Bool.not_true, pv_bT, pv_bF, eq_self, G.Tr.1, C.T.2.2.1, nI_le' (show tR (xT x) < 2 ^ 31 by omega) (show tR (xT x) < 2 ^ 31 by omega)]
      exact tail _ _
    | succ n ih =>
      intro r w hr
      have hrR : r < tR (xT x) := by omega
      have hq := O.S.1 r hrR
      have e1 : dTk (xT x) (xS x) set (r + 1) = dTk (xT x) (xS x) set r + (if set.testBit r then 2 * (sH (xS x) - sP (xS x) r) + tW (xT x) r else 0) := rfl
      have e2 : dBr (xS x) set (r + 1) = dBr (xS x) set r + (if set.testBit r then dTen (xS x) r * (if sK (xS x) r = 2 then 0 else sV (xS x) r) else 0) := rfl
      rw [z9_9]
      simp only [z9_11, z9_12, z9_15, z9_18, z9_19, z9_21, z9_24, z9_98, z9_101, pv_catN, pv_cat1, pv_cat2, pv_cat3, pv_catL, Option.toList, List.nil_append, List.cons_append, List.append_nil, pv_rfS, pn_i, pn_r, pn_n, pn_o, true_and, and_true, Nat.le_refl, and_self, true_implies, false_implies, not_true_eq_false, not_false_eq_true, pv_b0, pv_b01, pv_bn0, pv_b1, Bool.false_eq_true, Bool.true_eq_false, Bool.not_false, Bool.not_true, pv_bT, pv_bF, eq_self, G.Tr.1, C.T.2.2.1, nI_le' (show tR (xT x) < 2 ^ 31 by omega) (show r < 2 ^ 31 by omega), show (tR (xT x) ≤ r) = False from eq_false (by omega), m98 (show set < 2 ^ 31 by omega) (show r < 32 by omega), nI_1]
      refine br (fun c => ?_) (fun c => ?_)
      · have := ih (r + 1) w (by omega)
        rw [e1, e2, c] at this
        exact this
      · have hlt := hsub r hrR c
        have es : nI (sH (xS x)) - nI (sP (xS x) r) = nI (sH (xS x) - sP (xS x) r) := pk_sub (by omega)
        have e2m : (2 : Int32) * nI (sH (xS x) - sP (xS x) r) = nI (2 * (sH (xS x) - sP (xS x) r)) := pk_mul 2 _
        have hk2 : (nI (sK (xS x) r) = 2) = (sK (xS x) r = 2) := nI_eq' (b := 2) (by omega) (by decide)
        have ih' := ih (r + 1) (some (.int (nI (sH (xS x) - sP (xS x) r)))) (by omega)
        rw [e1, e2, if_pos c, if_pos c] at ih'
        simp only [z9_27, z9_28, z9_31, z9_32, z9_35, z9_37, z9_38, z9_39, z9_41, z9_43, z9_44, z9_46, z9_47, z9_48, z9_51, z9_53, z9_54, z9_55, z9_56, z9_58, z9_60, z9_61, z9_64, z9_66, z9_67, z9_69, z9_72, z9_73, z9_76, z9_78, z9_79, z9_80, z9_83, z9_84, z9_87, z9_88, z9_91, z9_93, z9_94, z9_95, z9_96, z9_98, z9_101, pv_catN, pv_cat1, pv_cat2, pv_cat3, pv_catL, Option.toList, List.nil_append, List.cons_append, List.append_nil, pv_rfS, pn_i, pn_r, pn_n, pn_o, true_and, and_true, Nat.le_refl, and_self, true_implies, false_implies, not_true_eq_false, not_false_eq_true, pv_b0, pv_b01, pv_bn0, pv_b1, Bool.false_eq_true, Bool.true_eq_false, Bool.not_false, Bool.not_true, pv_bT, pv_bF, eq_self, G.S20.1, G.S20.2.1, G.S20.2.2.1, G.S20.2.2.2.1, G.S20.2.2.2.2.1, G.S20.2.2.2.2.2.1, G.S20.2.2.2.2.2.2, G.Tr.1, G.Tr.2.2.1, G.Tr.2.2.2.2.2.2.2.2.2.1, vp_nI (show r < 8 by omega) (show 8 < 2 ^ 31 by decide), nI_clamp (show r < 2 ^ 31 by omega), C.S.2.2.2.2.1, C.S.1 r hrR, C.S.2.1 r hrR, C.S.2.2.1 r hrR, C.T.2.2.2.1 r hrR, es, e2m, nI_add, m10 hq.2.2 (show sH (xS x) - sP (xS x) r < 6 by omega), hk2, pk_mul, nI_1]
        refine ⟨fun c2 => ?_, fun c2 => ?_⟩
        · rw [if_neg c2] at ih'
          exact ih'
        · rw [if_pos (Classical.not_not.mp c2)] at ih'
          rw [Int32.mul_zero, Int32.add_zero]
          exact ih'
  simp only [e9, z9_0, z9_1, z9_3, z9_4, z9_6, z9_7, pv_catN, pv_cat1, pv_cat2, pv_cat3, pv_catL, Option.toList, List.nil_append, List.cons_append, List.append_nil, pv_rfS, pn_i, pn_r, pn_n, pn_o, true_and, and_true, Nat.le_refl, and_self, true_implies, false_implies, not_true_eq_false, not_false_eq_true, pv_b0, pv_b01, pv_bn0, pv_b1, Bool.false_eq_true, Bool.true_eq_false, Bool.not_false, Bool.not_true, pv_bT, pv_bF, eq_self]
  exact loop (tR (xT x)) 0 _ (Nat.zero_add _)
theorem two_R {R : Nat} (h : R ≤ 8) : 2 ^ R ≤ 256 := Nat.pow_le_pow_right (n := 2) (by decide) h
theorem m8 {d : Nat} {P : PvP} {g : PvG} {h : PvH} {rt tt : Nat} {q : Nat → Nat} {x : SX} (G : gC g rt tt q) (C : cC h rt q x) (O : okX x) {m : Nat} (hm : m ≤ 99) (hP : ∀ h' : PvH, (∀ o, o ≠ 101 → h' o = h o) → hDv h' 101 0 (dv (xT x) (xS x) m (2 ^ tR (xT x) - 1)) → P none g h') : pv_run (d + 3) 8 [.ref 101, .ref rt, .ref 20, .int (nI m)] g h P := by
  have hR := O.R
  have hD := O.D
  have G4 := G.rt
  have h2 := two_R hR
  have h0 : 0 < 2 ^ tR (xT x) := Nat.two_pow_pos _
  have loop : ∀ n k (h1 : PvH), k + 1 + n = 2 ^ tR (xT x) → (∀ o, o ≠ 101 → h1 o = h o) → hDv h1 101 0 (dv (xT x) (xS x) m k) → pv_E (d + 2) 8 P 18 [some (.ref 101), some (.ref rt), some (.ref 20), some (.int (nI m)), some (.int (nI (k + 1)))] [] 0 0 g h1 := by
    intro n
    induction n with
    | zero =>
      intro k h1 hk f1 B
      have C1 : cC h1 rt q x := C.fr G O (fun o ho => f1 o (by omega)) ⟨by rw [f1 _ (by omega)], by rw [f1 _ (by omega)], by rw [f1 _ (by omega)], by rw [f1 _ (by omega)]⟩
      rw [z8_18]
      simp only [z8_20, z8_21, z8_22, z8_25, z8_26, z8_56, pv_catN, pv_cat1, pv_cat2, pv_cat3, pv_catL, Option.toList, List.nil_append, List.cons_append, List.append_nil, pv_rfS, pn_i, pn_r, pn_n, pn_o, true_and, and_true, Nat.le_refl, and_self, true_implies, false_implies, not_true_eq_false, not_false_eq_true, pv_b0, pv_b01, pv_bn0, pv_b1, Bool.false_eq_true, Bool.true_eq_false, Bool.not_false, Bool.not_true, pv_bT, pv_bF, eq_self, G.Tr.1, C1.T.2.2.1, shlN (show tR (xT x) < 31 by omega), nI_le' (show 2 ^ tR (xT x) < 2 ^ 31 by omega) (show k + 1 < 2 ^ 31 by omega), show (2 ^ tR (xT x) ≤ k + 1) = True from eq_true (by omega)]
      rw [show 2 ^ tR (xT x) - 1 = k by omega] at hP
      exact hP h1 f1 B
    | succ n ih =>
      intro k h1 hk f1 B
      have C1 : cC h1 rt q x := C.fr G O (fun o ho => f1 o (by omega)) ⟨by rw [f1 _ (by omega)], by rw [f1 _ (by omega)], by rw [f1 _ (by omega)], by rw [f1 _ (by omega)]⟩
      have hle : (k + 1) &&& (2 ^ 32 - (sD (xS x) + 1)) ≤ k + 1 := Nat.and_le_left
      have ea : nI (k + 1) &&& (nI (sD (xS x)) ^^^ (-1)) = nI ((k + 1) &&& (2 ^ 32 - (sD (xS x) + 1))) := by rw [not_D _ hD, fa_and]
      have e0 : (nI ((k + 1) &&& (2 ^ 32 - (sD (xS x) + 1))) = 0) = ((k + 1) &&& (2 ^ 32 - (sD (xS x) + 1)) = 0) := nI_eq' (b := 0) (by omega) (by decide)
      have ek : dv (xT x) (xS x) m (k + 1) = dBst (xT x) (xS x) m (k + 1) (dv (xT x) (xS x) m k) := rfl
      have hb := dv_le O.T O.S m k
      rw [z8_18]
      simp only [z8_20, z8_21, z8_22, z8_25, z8_26, z8_29, z8_31, z8_32, z8_35, z8_36, z8_37, z8_38, z8_41, z8_42, z8_43, z8_44, z8_46, z8_50, z8_53, pv_catN, pv_cat1, pv_cat2, pv_cat3, pv_catL, Option.toList, List.nil_append, List.cons_append, List.append_nil, pv_rfS, pn_i, pn_r, pn_n, pn_o, true_and, and_true, Nat.le_refl, and_self, true_implies, false_implies, not_true_eq_false, not_false_eq_true, pv_b0, pv_b01, pv_bn0, pv_b1, Bool.false_eq_true, Bool.true_eq_false, Bool.not_false, Bool.not_true, pv_bT, pv_bF, eq_self, G.Tr.1, C1.T.2.2.1, shlN (show tR (xT x) < 31 by omega), nI_le' (show 2 ^ tR (xT x) < 2 ^ 31 by omega) (show k + 1 < 2 ^ 31 by omega), show (2 ^ tR (xT x) ≤ k + 1) = False from eq_false (by omega), G.S20.1, C1.S.2.2.2.1, ea, e0, nI_1]
      refine ⟨fun c => ?_, fun c => ?_⟩
      · refine ih (k + 1) h1 (by omega) f1 ?_
        rw [ek]
        unfold dBst dSub
        rw [decide_eq_false c]
        exact B
      · have c := Classical.not_not.mp c
        have hs : dSub (xS x) (k + 1) = true := decide_eq_true c
        rw [z8_47 (by simp [pv_cat, Value.category]) (by decide)]
        refine ⟨G.o101, m9 G C1 O (show k + 1 < 256 by omega) hm (fun r hr hb => ?_) B hb.1 hb.2.1 fun h2 f2 B2 => ?_⟩
        · exact ((O.S.2.2.2.2.2.1) r hr).mp (dSub_t hD hs (by omega) hb)
        · simp only [z8_50, z8_53, pv_catN, pv_cat1, pv_cat2, pv_cat3, pv_catL, Option.toList, List.nil_append, List.cons_append, List.append_nil, pv_rfS, pn_i, pn_r, pn_n, pn_o, true_and, and_true, Nat.le_refl, and_self, true_implies, false_implies, not_true_eq_false, not_false_eq_true, pv_b0, pv_b01, pv_bn0, pv_b1, Bool.false_eq_true, Bool.true_eq_false, Bool.not_false, Bool.not_true, pv_bT, pv_bF, eq_self, nI_1]
          refine ih (k + 1) h2 (by omega) (fun o ho => by rw [f2 o ho, f1 o ho]) ?_
          rw [ek]
          unfold dBst
          rw [hs, Bool.true_and]
          exact B2
  simp only [e8, z8_0, z8_1, z8_2, z8_5, z8_6, z8_7, z8_10, z8_11, z8_12, z8_15, z8_16, pv_catN, pv_cat1, pv_cat2, pv_cat3, pv_catL, Option.toList, List.nil_append, List.cons_append, List.append_nil, pv_rfS, pn_i, pn_r, pn_n, pn_o, true_and, and_true, Nat.le_refl, and_self, true_implies, false_implies, not_true_eq_false, not_false_eq_true, pv_b0, pv_b01, pv_bn0, pv_b1, Bool.false_eq_true, Bool.true_eq_false, Bool.not_false, Bool.not_true, pv_bT, pv_bF, eq_self, G.o101]
  refine loop (2 ^ tR (xT x) - 1) 0 _ (by omega) (fun o ho => by rw [st_o ho, st_o ho, st_o ho]) ⟨?_, ?_, ?_⟩
  · rw [st_k (by omega), st_k (by omega), st_at]; rfl
  · rw [st_k (by omega), st_at]; rfl
  · rw [st_at]; rfl
def divX (x : SX) (m k : Nat) : Nat := match k with
  | 0 => (dv (xT x) (xS x) m (2 ^ tR (xT x) - 1)).1
  | 1 => (dv (xT x) (xS x) m (2 ^ tR (xT x) - 1)).2.1
  | _ => (dv (xT x) (xS x) m (2 ^ tR (xT x) - 1)).2.2
def divA (x : SX) (a b : Int32) : Int32 := if inr a 100 && inr b 3 then nI (divX x a.toNatClampNeg b.toNatClampNeg) else -2
theorem inr_f {a : Int32} {n : Nat} (h : inr a (n + 1) = false) (hn : n < 2 ^ 31) : a < 0 ∨ nI n < a := by
  have := of_decide_eq_false h
  rw [lt0, lt_nI hn]
  omega
theorem oC81 {x : SX} (O : okX x) (a b : Int32) : OpC 4 81 [.int a, .int b] x (.int (divA x a b)) x := by
  intro d P g h ⟨rt, tt, q, G, C⟩ hP
  have G4 := G.rt
  unfold divA at hP
  cases hI : (inr a 100 && inr b 3) with
  | false =>
    rw [hI] at hP
    have hP := hP g h ⟨rt, tt, q, G, C⟩ FG.rf FC.rf
    simp only [e81, z81_0, z81_1, z81_4, z81_5, z81_7, z81_10, z81_11, z81_14, z81_15, z81_16, z81_19, z81_21, z81_38, z81_39, z81_42, z81_43, z81_46, z81_49, z81_50, z81_51, z81_52, z81_55, z81_56, z81_59, z81_62, z81_65, z81_66, z81_69, z81_72, pv_catN, pv_cat1, pv_cat2, pv_cat3, pv_catL, Option.toList, List.nil_append, List.cons_append, List.append_nil, pv_rfS, pn_i, pn_r, pn_n, pn_o, true_and, and_true, Nat.le_refl, and_self, true_implies, false_implies, not_true_eq_false, not_false_eq_true, pv_b0, pv_b01, pv_bn0, pv_b1, Bool.false_eq_true, Bool.true_eq_false, Bool.not_false, Bool.not_true, pv_bT, pv_bF, eq_self]
    refine ⟨fun _ => hP, fun c1 => ⟨fun _ => hP, fun c2 => ⟨fun _ => hP, fun c3 => ⟨fun c4 => ?_, fun _ => hP⟩⟩⟩⟩
    exfalso
    rcases Bool.and_eq_false_iff.mp hI with z | z
    · rcases inr_f (n := 99) z (by decide) with y | y
      · exact c1 y
      · exact c2 y
    · rcases inr_f (n := 2) z (by decide) with y | y
      · exact c3 y
      · exact absurd c4 (Int32.not_le.mpr y)
  | true =>
    obtain ⟨hA, hB⟩ := Bool.and_eq_true_iff.mp hI
    obtain ⟨m, hm, rfl⟩ := inr_t hA
    obtain ⟨k, hk, rfl⟩ := inr_t hB
    rw [hI, nI_clamp (by omega), nI_clamp (by omega)] at hP
    have e99 : ((99 : Int32) < nI m) = False := eq_false (by rw [show (99 : Int32) = nI 99 from rfl, nI_lt' (by decide) (by omega)]; omega)
    have e2 : (nI k ≤ 2) = True := eq_true (by rw [show (2 : Int32) = nI 2 from rfl, nI_le' (by omega) (by decide)]; omega)
    simp only [e81, z81_0, z81_1, z81_4, z81_5, z81_7, z81_10, z81_11, z81_14, z81_15, z81_16, z81_19, z81_21, z81_22, z81_23, z81_26, z81_27, z81_30, z81_31, z81_34, z81_38, z81_39, z81_42, z81_43, z81_46, z81_49, z81_50, z81_51, z81_52, z81_55, z81_56, z81_59, z81_62, z81_65, z81_66, z81_69, z81_72, pv_catN, pv_cat1, pv_cat2, pv_cat3, pv_catL, Option.toList, List.nil_append, List.cons_append, List.append_nil, pv_rfS, pn_i, pn_r, pn_n, pn_o, true_and, and_true, Nat.le_refl, and_self, true_implies, false_implies, not_true_eq_false, not_false_eq_true, pv_b0, pv_b01, pv_bn0, pv_b1, Bool.false_eq_true, Bool.true_eq_false, Bool.not_false, Bool.not_true, pv_bT, pv_bF, eq_self, lt0, nI_toInt (show m < 2 ^ 31 by omega), nI_toInt (show k < 2 ^ 31 by omega), show ((m : Int) < 0) = False from eq_false (by omega), show ((k : Int) < 0) = False from eq_false (by omega), e99, e2, G.o0, G.r0_12, G.r0_3, G.r0_4]
    rw [z81_35 (by simp [pv_cat, Value.category]) (by decide)]
    refine ⟨G.o101, m8 G C O (by omega) fun h1 f1 B => ?_⟩
    have hP := hP g h1 ⟨rt, tt, q, G, C.fr G O (fun o ho => f1 o (by omega)) ⟨by rw [f1 _ (by omega)], by rw [f1 _ (by omega)], by rw [f1 _ (by omega)], by rw [f1 _ (by omega)]⟩⟩ FG.rf (fun o ho => f1 o (by omega))
    have hk0 : (nI k = 0) = (k = 0) := nI_eq' (b := 0) (by omega) (by decide)
    have hk1 : (nI k = 1) = (k = 1) := nI_eq' (b := 1) (by omega) (by decide)
    simp only [z81_0, z81_1, z81_4, z81_5, z81_7, z81_10, z81_11, z81_14, z81_15, z81_16, z81_19, z81_21, z81_22, z81_23, z81_26, z81_27, z81_30, z81_31, z81_34, z81_35, z81_38, z81_39, z81_42, z81_43, z81_46, z81_49, z81_50, z81_51, z81_52, z81_55, z81_56, z81_59, z81_62, z81_65, z81_66, z81_69, z81_72, pv_catN, pv_cat1, pv_cat2, pv_cat3, pv_catL, Option.toList, List.nil_append, List.cons_append, List.append_nil, pv_rfS, pn_i, pn_r, pn_n, pn_o, true_and, and_true, Nat.le_refl, and_self, true_implies, false_implies, not_true_eq_false, not_false_eq_true, pv_b0, pv_b01, pv_bn0, pv_b1, Bool.false_eq_true, Bool.true_eq_false, Bool.not_false, Bool.not_true, pv_bT, pv_bF, eq_self, hk0, hk1, G.o0, G.r0_12, G.o101, B.1, show h1 101 1 = nI (dv (xT x) (xS x) m (2 ^ tR (xT x) - 1)).2.1 from B.2.1, show h1 101 2 = nI (dv (xT x) (xS x) m (2 ^ tR (xT x) - 1)).2.2 from B.2.2]
    rcases (by omega : k = 0 ∨ k = 1 ∨ k = 2) with rfl | rfl | rfl
    · simpa [divX] using hP
    · simpa [divX] using hP
    · simpa [divX] using hP
def dMn (t : ST) (s : SS) (set n : Nat) : Nat := sm (fun r => if set.testBit r then (if (sD s).testBit r then 2 * (sH s - sP s r) + tW t r else 99999) else 0) n
theorem sm_ge {f : Nat → Nat} {r : Nat} : ∀ {n}, r < n → f r ≤ sm f n := by
  intro n
  induction n with
  | zero => intro h; omega
  | succ n ih =>
    intro h
    show f r ≤ sm f n + f n
    rcases Nat.lt_succ_iff_lt_or_eq.mp h with z | z
    · have := ih z; omega
    · subst z; omega
theorem dMn_le {t : ST} {s : SS} (T : okT t) (S : okS t s) (set : Nat) {n : Nat} (hn : n ≤ tR t) : dMn t s set n ≤ 799992 := by
  have hH := S.2.2.1
  have hF := T.2.1
  have h := sm_le (f := fun r => if set.testBit r then (if (sD s).testBit r then 2 * (sH s - sP s r) + tW t r else 99999) else 0) (b := 99999) (n := n) (fun r hr => by
    have := (T.2.2.2.1 r (by omega)).2.1
    show (if set.testBit r then (if (sD s).testBit r then 2 * (sH s - sP s r) + tW t r else 99999) else 0) ≤ 99999
    split
    · split <;> omega
    · omega)
  have := T.2.2.1
  unfold dMn
  omega
theorem nL99 {b : Nat} : nI b + 99999 = nI (b + 99999) := nI_add b 99999
theorem gt5 {e : Nat} (h : e ≤ 5) : (nI e ≤ 5) = True := eq_true (by rw [show (5 : Int32) = nI 5 from rfl, nI_le' (by omega) (by decide)]; exact h)
theorem m159_in {d : Nat} {P : PvP} {g : PvG} {h : PvH} {x : SX} (G : gM g) (M : cD h x) (O : okX x) {m set : Nat} (hs : set < 256) (hF : ∀ (w6 w7 : Option Value) (v : Int32), ((∀ e, e < tR (xT x) → set.testBit e = true → (sD (xS x)).testBit e = true) → v = nI (dBr (xS x) set (tR (xT x)))) → pv_E (d + 1) 159 P 168 [some (.ref 102), some (.int (nI m)), some (.int (nI set)), some (.int v), some (.int (nI (dMn (xT x) (xS x) set (tR (xT x))))), some (.int (nI (tR (xT x)))), w6, w7] [] 0 0 g h) : ∀ n r (w6 w7 : Option Value) (v : Int32), r + n = tR (xT x) → ((∀ e, e < r → set.testBit e = true → (sD (xS x)).testBit e = true) → v = nI (dBr (xS x) set r)) → pv_E (d + 1) 159 P 35 [some (.ref 102), some (.int (nI m)), some (.int (nI set)), some (.int v), some (.int (nI (dMn (xT x) (xS x) set r))), some (.int (nI r)), w6, w7] [] 0 0 g h := by
  have hR := O.R
  have hFl := O.F
  have hH := O.S.2.2.1
  intro n
  induction n with
  | zero =>
    intro r w6 w7 v hr hv
    have hr : r = tR (xT x) := hr
    subst hr
    rw [z159_35]
    simp only [z159_37, z159_38, z159_41, pv_catN, pv_cat1, pv_cat2, pv_cat3, pv_catL, Option.toList, List.nil_append, List.cons_append, List.append_nil, pv_rfS, pn_i, pn_r, pn_n, pn_o, true_and, and_true, Nat.le_refl, and_self, true_implies, false_implies, not_true_eq_false, not_false_eq_true, pv_b0, pv_b01, pv_bn0, pv_b1, Bool.false_eq_true, Bool.true_eq_false, Bool.not_false, Bool.not_true, pv_bT, pv_bF, eq_self, G.o, M.M.R, nI_le' (show tR (xT x) < 2 ^ 31 by omega) (show tR (xT x) < 2 ^ 31 by omega)]
    exact hF _ _ _ hv
  | succ n ih =>
    intro r w6 w7 v hr hv
    have hrR : r < tR (xT x) := by omega
    have hq := O.S.1 r hrR
    have hDr := O.S.2.2.2.2.2.1 r hrR
    have e1 : dMn (xT x) (xS x) set (r + 1) = dMn (xT x) (xS x) set r + (if set.testBit r then (if (sD (xS x)).testBit r then 2 * (sH (xS x) - sP (xS x) r) + tW (xT x) r else 99999) else 0) := rfl
    have e2 : dBr (xS x) set (r + 1) = dBr (xS x) set r + (if set.testBit r then dTen (xS x) r * (if sK (xS x) r = 2 then 0 else sV (xS x) r) else 0) := rfl
    have go : ∀ (w6 w7 : Option Value) (v' : Int32), ((∀ e, e < r + 1 → set.testBit e = true → (sD (xS x)).testBit e = true) → v' = nI (dBr (xS x) set (r + 1))) → pv_E (d + 1) 159 P 35 [some (.ref 102), some (.int (nI m)), some (.int (nI set)), some (.int v'), some (.int (nI (dMn (xT x) (xS x) set (r + 1)))), some (.int (nI (r + 1))), w6, w7] [] 0 0 g h := fun w6 w7 v' => ih (r + 1) w6 w7 v' (by omega)
    rw [e1, e2] at go
    rw [z159_35]
    simp only [z159_37, z159_38, z159_41, z159_44, z159_45, z159_47, z159_50, z159_162, z159_165, pv_catN, pv_cat1, pv_cat2, pv_cat3, pv_catL, Option.toList, List.nil_append, List.cons_append, List.append_nil, pv_rfS, pn_i, pn_r, pn_n, pn_o, true_and, and_true, Nat.le_refl, and_self, true_implies, false_implies, not_true_eq_false, not_false_eq_true, pv_b0, pv_b01, pv_bn0, pv_b1, Bool.false_eq_true, Bool.true_eq_false, Bool.not_false, Bool.not_true, pv_bT, pv_bF, eq_self, G.o, M.M.R, nI_le' (show tR (xT x) < 2 ^ 31 by omega) (show r < 2 ^ 31 by omega), show (tR (xT x) ≤ r) = False from eq_false (by omega), m101 (show set < 2 ^ 31 by omega) (show r < 32 by omega), nI_1]
    refine br (fun c => ?_) (fun c => ?_)
    · rw [c] at go
      exact go w6 w7 v (fun z => by
        simp only [Bool.false_eq_true, if_false, Nat.add_zero]
        exact hv (fun e he => z e (by omega)))
    · rw [if_pos c, if_pos c] at go
      have hk1 : (nI (sK (xS x) r) = 1) = (sK (xS x) r = 1) := nI_eq' (b := 1) (by omega) (by decide)
      have hk2 : (nI (sK (xS x) r) = 2) = (sK (xS x) r = 2) := nI_eq' (b := 2) (by omega) (by decide)
      cases hd : (sD (xS x)).testBit r with
      | false =>
        rw [hd] at go
        have go : ∀ (w6 w7 : Option Value) (v' : Int32), pv_E (d + 1) 159 P 35 [some (.ref 102), some (.int (nI m)), some (.int (nI set)), some (.int v'), some (.int (nI (dMn (xT x) (xS x) set r + 99999))), some (.int (nI (r + 1))), w6, w7] [] 0 0 g h := fun w6 w7 v' => go w6 w7 v' (fun z => absurd (z r (by omega) c) (by rw [hd]; decide))
        simp only [z159_0, z159_1, z159_2, z159_5, z159_6, z159_7, z159_10, z159_11, z159_12, z159_15, z159_16, z159_17, z159_18, z159_19, z159_20, z159_23, z159_24, z159_27, z159_28, z159_29, z159_30, z159_32, z159_33, z159_37, z159_38, z159_41, z159_44, z159_45, z159_47, z159_50, z159_53, z159_54, z159_57, z159_58, z159_61, z159_63, z159_64, z159_65, z159_67, z159_68, z159_71, z159_73, z159_74, z159_75, z159_78, z159_80, z159_83, z159_85, z159_86, z159_89, z159_90, z159_93, z159_95, z159_96, z159_98, z159_99, z159_100, z159_102, z159_104, z159_105, z159_108, z159_110, z159_111, z159_114, z159_115, z159_117, z159_118, z159_119, z159_122, z159_124, z159_125, z159_126, z159_129, z159_131, z159_132, z159_134, z159_135, z159_136, z159_139, z159_141, z159_142, z159_143, z159_146, z159_147, z159_150, z159_152, z159_153, z159_156, z159_158, z159_159, z159_160, z159_161, z159_162, z159_165, z159_170, z159_171, z159_174, z159_175, z159_176, z159_179, z159_182, z159_183, z159_184, z159_187, z159_190, z159_192, z159_193, z159_196, z159_199, z159_200, z159_201, z159_204, z159_205, z159_207, z159_210, z159_211, z159_212, z159_215, z159_218, z159_221, pv_catN, pv_cat1, pv_cat2, pv_cat3, pv_catL, Option.toList, List.nil_append, List.cons_append, List.append_nil, pv_rfS, pn_i, pn_r, pn_n, pn_o, true_and, and_true, Nat.le_refl, and_self, true_implies, false_implies, not_true_eq_false, not_false_eq_true, pv_b0, pv_b01, pv_bn0, pv_b1, Bool.false_eq_true, Bool.true_eq_false, Bool.not_false, Bool.not_true, pv_bT, pv_bF, eq_self, G.o, G.r11, G.t109, G.r10, G.t108, G.r12, G.t110, G.r8, G.t106, vp_nI (show r < 8 by omega) (show 8 < 2 ^ 31 by decide), nI_clamp (show r < 2 ^ 31 by omega), M.M.H, M.M.P r hrR, M.M.K r hrR, M.M.D r hrR, M.M.V r hrR, hd, hk1, hk2, nL99, nI_1]
        repeat' (first | exact go _ _ _ | refine ⟨fun _ => ?_, fun _ => ?_⟩)
      | true =>
        have hlt := hDr.mp hd
        rw [hd] at go
        have es : nI (sH (xS x)) - nI (sP (xS x) r) = nI (sH (xS x) - sP (xS x) r) := pk_sub (by omega)
        have e2m : (2 : Int32) * nI (sH (xS x) - sP (xS x) r) = nI (2 * (sH (xS x) - sP (xS x) r)) := pk_mul 2 _
        have e10 : (10 : Int32) - nI (2 * (sH (xS x) - sP (xS x) r)) = nI (10 - 2 * (sH (xS x) - sP (xS x) r)) := pk_sub (a := 10) (by omega)
        have e10b : (10 : Int32) * nI (sV (xS x) r) = nI (10 * sV (xS x) r) := pk_mul 10 _
        simp only [z159_0, z159_1, z159_2, z159_5, z159_6, z159_7, z159_10, z159_11, z159_12, z159_15, z159_16, z159_17, z159_18, z159_19, z159_20, z159_23, z159_24, z159_27, z159_28, z159_29, z159_30, z159_32, z159_33, z159_37, z159_38, z159_41, z159_44, z159_45, z159_47, z159_50, z159_53, z159_54, z159_57, z159_58, z159_61, z159_63, z159_64, z159_65, z159_67, z159_68, z159_71, z159_73, z159_74, z159_75, z159_78, z159_80, z159_83, z159_85, z159_86, z159_89, z159_90, z159_93, z159_95, z159_96, z159_98, z159_99, z159_100, z159_102, z159_104, z159_105, z159_108, z159_110, z159_111, z159_114, z159_115, z159_117, z159_118, z159_119, z159_122, z159_124, z159_125, z159_126, z159_129, z159_131, z159_132, z159_134, z159_135, z159_136, z159_139, z159_141, z159_142, z159_143, z159_146, z159_147, z159_150, z159_152, z159_153, z159_156, z159_158, z159_159, z159_160, z159_161, z159_162, z159_165, z159_170, z159_171, z159_174, z159_175, z159_176, z159_179, z159_182, z159_183, z159_184, z159_187, z159_190, z159_192, z159_193, z159_196, z159_199, z159_200, z159_201, z159_204, z159_205, z159_207, z159_210, z159_211, z159_212, z159_215, z159_218, z159_221, pv_catN, pv_cat1, pv_cat2, pv_cat3, pv_catL, Option.toList, List.nil_append, List.cons_append, List.append_nil, pv_rfS, pn_i, pn_r, pn_n, pn_o, true_and, and_true, Nat.le_refl, and_self, true_implies, false_implies, not_true_eq_false, not_false_eq_true, pv_b0, pv_b01, pv_bn0, pv_b1, Bool.false_eq_true, Bool.true_eq_false, Bool.not_false, Bool.not_true, pv_bT, pv_bF, eq_self, G.o, G.r11, G.t109, G.r10, G.t108, G.r12, G.t110, G.r8, G.t106, G.r7, G.t105, vp_nI (show r < 8 by omega) (show 8 < 2 ^ 31 by decide), nI_clamp (show r < 2 ^ 31 by omega), M.M.H, M.M.P r hrR, M.M.K r hrR, M.M.D r hrR, M.M.V r hrR, M.M.W r hrR, hd, hk1, hk2, es, gt5 (show sH (xS x) - sP (xS x) r ≤ 5 by omega), e2m, e10, e10b, nI_add, pk_mul, nI_1]
        have hv2 : (∀ e, e < r + 1 → set.testBit e = true → (sD (xS x)).testBit e = true) → v = nI (dBr (xS x) set r) := fun z => hv (fun e he => z e (by omega))
        refine ⟨fun ck => ⟨fun c2 => ?_, fun c2 => ?_⟩, fun ck => ⟨fun c2 => ?_, fun c2 => ?_⟩⟩
        · refine go _ _ _ (fun z => ?_)
          rw [hv2 z, if_neg c2]
          unfold dTen
          rw [if_neg ck, nI_add]
        · refine go _ _ _ (fun z => ?_)
          rw [hv2 z, if_pos (Classical.not_not.mp c2), Int32.add_zero]
          rfl
        · refine go _ _ _ (fun z => ?_)
          rw [hv2 z, if_neg c2]
          unfold dTen
          rw [if_pos (Classical.not_not.mp ck), nI_add]
        · refine go _ _ _ (fun z => ?_)
          rw [hv2 z, if_pos (Classical.not_not.mp c2), Int32.add_zero]
          rfl
theorem dMn_s {t : ST} {s : SS} {set : Nat} (hD : sD s < 256) (hR : tR t ≤ 8) (h : dSub s set = true) : dMn t s set (tR t) = dTk t s set (tR t) := by
  refine sm_congr (fun r hr => ?_)
  show (if set.testBit r then (if (sD s).testBit r then 2 * (sH s - sP s r) + tW t r else 99999) else 0) = (if set.testBit r then 2 * (sH s - sP s r) + tW t r else 0)
  by_cases c : set.testBit r = true
  · rw [if_pos c, if_pos c, if_pos (dSub_t hD h (by omega) c)]
  · rw [if_neg c, if_neg c]
theorem dMn_g {t : ST} {s : SS} {set : Nat} (hD : sD s < 256) (hs : set < 2 ^ tR t) (hR : tR t ≤ 8) (h : dSub s set = false) : 99999 ≤ dMn t s set (tR t) := by
  obtain ⟨r, h1, h2, h3⟩ := dSub_f hD hs hR h
  have := sm_ge (f := fun r => if set.testBit r then (if (sD s).testBit r then 2 * (sH s - sP s r) + tW t r else 99999) else 0) (n := tR t) h1
  simp only [h2, h3, if_true, Bool.false_eq_true, if_false] at this
  exact this
set_option maxHeartbeats 1000000 in
theorem m159 {d : Nat} {P : PvP} {g : PvG} {h : PvH} {x : SX} (G : gM g) (M : cD h x) (O : okX x) {m : Nat} (hm : m ≤ 99) (hP : ∀ h' : PvH, (∀ o, o ≠ 102 → h' o = h o) → (∀ k, k ≠ 37 → k ≠ 38 → k ≠ 39 → h' 102 k = h 102 k) → hDv h' 102 37 (dv (xT x) (xS x) m (2 ^ tR (xT x) - 1)) → P none g h') : pv_run (d + 2) 159 [.ref 102, .int (nI m)] g h P := by
  have hR := O.R
  have hD := O.D
  have h2 := two_R hR
  have h0 : 0 < 2 ^ tR (xT x) := Nat.two_pow_pos _
  have loop : ∀ n k (h1 : PvH) (w3 w4 w5 w6 w7 : Option Value), k + 1 + n = 2 ^ tR (xT x) → (∀ o, o ≠ 102 → h1 o = h o) → (∀ k, k ≠ 37 → k ≠ 38 → k ≠ 39 → h1 102 k = h 102 k) → hDv h1 102 37 (dv (xT x) (xS x) m k) → pv_E (d + 1) 159 P 17 [some (.ref 102), some (.int (nI m)), some (.int (nI (k + 1))), w3, w4, w5, w6, w7] [] 0 0 g h1 := by
    intro n
    induction n with
    | zero =>
      intro k h1 w3 w4 w5 w6 w7 hk f1 f2 B
      have e6 : h1 102 6 = nI (tR (xT x)) := by rw [f2 6 (by omega) (by omega) (by omega)]; exact M.M.R
      rw [z159_17]
      simp only [z159_18, z159_19, z159_20, z159_23, z159_24, z159_221, pv_catN, pv_cat1, pv_cat2, pv_cat3, pv_catL, Option.toList, List.nil_append, List.cons_append, List.append_nil, pv_rfS, pn_i, pn_r, pn_n, pn_o, true_and, and_true, Nat.le_refl, and_self, true_implies, false_implies, not_true_eq_false, not_false_eq_true, pv_b0, pv_b01, pv_bn0, pv_b1, Bool.false_eq_true, Bool.true_eq_false, Bool.not_false, Bool.not_true, pv_bT, pv_bF, eq_self, G.o, e6, shlN (show tR (xT x) < 31 by omega), nI_le' (show 2 ^ tR (xT x) < 2 ^ 31 by omega) (show k + 1 < 2 ^ 31 by omega), show (2 ^ tR (xT x) ≤ k + 1) = True from eq_true (by omega)]
      rw [show 2 ^ tR (xT x) - 1 = k by omega] at hP
      exact hP h1 f1 f2 B
    | succ n ih =>
      intro k h1 w3 w4 w5 w6 w7 hk f1 f2 B
      have M1 : cD h1 x := M.fr (fun o h1 h2 => f1 o (by omega)) (fun k hk => f2 k (by omega) (by omega) (by omega))
      have ek : dv (xT x) (xS x) m (k + 1) = dBst (xT x) (xS x) m (k + 1) (dv (xT x) (xS x) m k) := rfl
      have hb := dv_le O.T O.S m k
      rw [z159_17]
      simp only [z159_18, z159_19, z159_20, z159_23, z159_24, z159_27, z159_28, z159_29, z159_30, z159_32, z159_33, pv_catN, pv_cat1, pv_cat2, pv_cat3, pv_catL, Option.toList, List.nil_append, List.cons_append, List.append_nil, pv_rfS, pn_i, pn_r, pn_n, pn_o, true_and, and_true, Nat.le_refl, and_self, true_implies, false_implies, not_true_eq_false, not_false_eq_true, pv_b0, pv_b01, pv_bn0, pv_b1, Bool.false_eq_true, Bool.true_eq_false, Bool.not_false, Bool.not_true, pv_bT, pv_bF, eq_self, G.o, M1.M.R, shlN (show tR (xT x) < 31 by omega), nI_le' (show 2 ^ tR (xT x) < 2 ^ 31 by omega) (show k + 1 < 2 ^ 31 by omega), show (2 ^ tR (xT x) ≤ k + 1) = False from eq_false (by omega)]
      refine m159_in G M1 O (show k + 1 < 256 by omega) (fun w6 w7 v hv => ?_) (tR (xT x)) 0 _ _ _ (Nat.zero_add _) (fun _ => rfl)
      have hM := dMn_le O.T O.S (k + 1) (Nat.le_refl (tR (xT x)))
      have keep : dBst (xT x) (xS x) m (k + 1) (dv (xT x) (xS x) m k) = dv (xT x) (xS x) m k → ∀ w3 w4 w5 w6 w7 : Option Value, pv_E (d + 1) 159 P 17 [some (.ref 102), some (.int (nI m)), some (.int (nI (k + 1 + 1))), w3, w4, w5, w6, w7] [] 0 0 g h1 := fun c w3 w4 w5 w6 w7 => by
        refine ih (k + 1) h1 _ _ _ _ _ (by omega) f1 f2 ?_
        rw [ek, c]
        exact B
      simp only [z159_168, z159_170, z159_171, z159_215, z159_218, pv_catN, pv_cat1, pv_cat2, pv_cat3, pv_catL, Option.toList, List.nil_append, List.cons_append, List.append_nil, pv_rfS, pn_i, pn_r, pn_n, pn_o, true_and, and_true, Nat.le_refl, and_self, true_implies, false_implies, not_true_eq_false, not_false_eq_true, pv_b0, pv_b01, pv_bn0, pv_b1, Bool.false_eq_true, Bool.true_eq_false, Bool.not_false, Bool.not_true, pv_bT, pv_bF, eq_self, nI_lt' (show m < 2 ^ 31 by omega) (show dMn (xT x) (xS x) (k + 1) (tR (xT x)) < 2 ^ 31 by omega), nI_1]
      cases hsub : dSub (xS x) (k + 1) with
      | false =>
        have := dMn_g hD (show k + 1 < 2 ^ tR (xT x) by omega) hR hsub
        refine ⟨fun _ => keep (by unfold dBst; rw [hsub]; rfl) _ _ _ _ _, fun c => absurd (by omega) c⟩
      | true =>
        have hv := hv (fun e he hb => dSub_t hD hsub (by omega) hb)
        subst hv
        rw [dMn_s hD hR hsub]
        have hTk := dTk_le O.T O.S (k + 1) (Nat.le_refl (tR (xT x)))
        have hBr := dBr_le O.T O.S (k + 1) (Nat.le_refl (tR (xT x)))
        have nogo : ¬ (dTk (xT x) (xS x) (k + 1) (tR (xT x)) ≤ m ∧ ((dv (xT x) (xS x) m k).1 < dBr (xS x) (k + 1) (tR (xT x)) ∨ (dBr (xS x) (k + 1) (tR (xT x)) = (dv (xT x) (xS x) m k).1 ∧ dTk (xT x) (xS x) (k + 1) (tR (xT x)) < (dv (xT x) (xS x) m k).2.1))) → ∀ w3 w4 w5 w6 w7 : Option Value, pv_E (d + 1) 159 P 17 [some (.ref 102), some (.int (nI m)), some (.int (nI (k + 1 + 1))), w3, w4, w5, w6, w7] [] 0 0 g h1 := fun c => keep (by unfold dBst dGo; rw [hsub, decide_eq_false c]; rfl)
        have take : (dTk (xT x) (xS x) (k + 1) (tR (xT x)) ≤ m ∧ ((dv (xT x) (xS x) m k).1 < dBr (xS x) (k + 1) (tR (xT x)) ∨ (dBr (xS x) (k + 1) (tR (xT x)) = (dv (xT x) (xS x) m k).1 ∧ dTk (xT x) (xS x) (k + 1) (tR (xT x)) < (dv (xT x) (xS x) m k).2.1))) → ∀ w3 w4 w5 w6 w7 : Option Value, pv_E (d + 1) 159 P 17 [some (.ref 102), some (.int (nI m)), some (.int (nI (k + 1 + 1))), w3, w4, w5, w6, w7] [] 0 0 g (pv_st (pv_st (pv_st h1 102 37 (nI (dBr (xS x) (k + 1) (tR (xT x))))) 102 38 (nI (dTk (xT x) (xS x) (k + 1) (tR (xT x))))) 102 39 (nI (k + 1))) := fun c w3 w4 w5 w6 w7 => by
          refine ih (k + 1) _ _ _ _ _ _ (by omega) (fun o ho => by rw [st_o ho, st_o ho, st_o ho, f1 o ho]) (fun j a b c => by rw [st_k c, st_k b, st_k a, f2 j a b c]) ?_
          rw [ek]
          unfold dBst dGo
          rw [hsub, decide_eq_true c, Bool.true_and, if_pos rfl]
          exact ⟨by rw [st_k (by omega), st_k (by omega), st_at], by rw [st_k (by omega), st_at], by rw [st_at]⟩
        refine ⟨fun c => nogo (by omega) _ _ _ _ _, fun c => ?_⟩
        simp only [z159_0, z159_1, z159_2, z159_5, z159_6, z159_7, z159_10, z159_11, z159_12, z159_15, z159_16, z159_18, z159_19, z159_20, z159_23, z159_24, z159_27, z159_28, z159_29, z159_30, z159_32, z159_33, z159_37, z159_38, z159_41, z159_44, z159_45, z159_47, z159_50, z159_53, z159_54, z159_57, z159_58, z159_61, z159_63, z159_64, z159_65, z159_67, z159_68, z159_71, z159_73, z159_74, z159_75, z159_78, z159_80, z159_83, z159_85, z159_86, z159_89, z159_90, z159_93, z159_95, z159_96, z159_98, z159_99, z159_100, z159_102, z159_104, z159_105, z159_108, z159_110, z159_111, z159_114, z159_115, z159_117, z159_118, z159_119, z159_122, z159_124, z159_125, z159_126, z159_129, z159_131, z159_132, z159_134, z159_135, z159_136, z159_139, z159_141, z159_142, z159_143, z159_146, z159_147, z159_150, z159_152, z159_153, z159_156, z159_158, z159_159, z159_160, z159_161, z159_162, z159_165, z159_170, z159_171, z159_174, z159_175, z159_176, z159_179, z159_182, z159_183, z159_184, z159_187, z159_190, z159_192, z159_193, z159_196, z159_199, z159_200, z159_201, z159_204, z159_205, z159_207, z159_210, z159_211, z159_212, z159_215, z159_218, z159_221, pv_catN, pv_cat1, pv_cat2, pv_cat3, pv_catL, Option.toList, List.nil_append, List.cons_append, List.append_nil, pv_rfS, pn_i, pn_r, pn_n, pn_o, true_and, and_true, Nat.le_refl, and_self, true_implies, false_implies, not_true_eq_false, not_false_eq_true, pv_b0, pv_b01, pv_bn0, pv_b1, Bool.false_eq_true, Bool.true_eq_false, Bool.not_false, Bool.not_true, pv_bT, pv_bF, eq_self, G.o, B.1, show h1 102 38 = nI (dv (xT x) (xS x) m k).2.1 from B.2.1, nI_lt' (show (dv (xT x) (xS x) m k).1 < 2 ^ 31 by omega) (show dBr (xS x) (k + 1) (tR (xT x)) < 2 ^ 31 by omega), nI_eq' (show dBr (xS x) (k + 1) (tR (xT x)) < 2 ^ 31 by omega) (show (dv (xT x) (xS x) m k).1 < 2 ^ 31 by omega), nI_le' (show (dv (xT x) (xS x) m k).2.1 < 2 ^ 31 by omega) (show dTk (xT x) (xS x) (k + 1) (tR (xT x)) < 2 ^ 31 by omega), nI_1]
        refine ⟨fun c2 => take (by omega) _ _ _ _ _, fun c2 => ⟨fun c3 => nogo (by omega) _ _ _ _ _, fun c3 => ⟨fun c4 => nogo (by omega) _ _ _ _ _, fun c4 => take (by omega) _ _ _ _ _⟩⟩⟩
  simp only [e159, z159_0, z159_1, z159_2, z159_5, z159_6, z159_7, z159_10, z159_11, z159_12, z159_15, z159_16, pv_catN, pv_cat1, pv_cat2, pv_cat3, pv_catL, Option.toList, List.nil_append, List.cons_append, List.append_nil, pv_rfS, pn_i, pn_r, pn_n, pn_o, true_and, and_true, Nat.le_refl, and_self, true_implies, false_implies, not_true_eq_false, not_false_eq_true, pv_b0, pv_b01, pv_bn0, pv_b1, Bool.false_eq_true, Bool.true_eq_false, Bool.not_false, Bool.not_true, pv_bT, pv_bF, eq_self, G.o]
  refine loop (2 ^ tR (xT x) - 1) 0 _ _ _ _ _ _ (by omega) (fun o ho => by rw [st_o ho, st_o ho, st_o ho]) (fun j a b c => by rw [st_k c, st_k b, st_k a]) ⟨?_, ?_, ?_⟩
  · rw [st_k (by omega), st_k (by omega), st_at]; rfl
  · rw [st_k (by omega), st_at]; rfl
  · rw [st_at]; rfl
theorem in2 {a : Int32} : decide ((0 : Int64) ≤ a.toInt64 ∧ a.toInt64 ≤ 2) = inr a 3 := by
  unfold inr
  apply decide_eq_decide.mpr
  rw [Int64.le_iff_toInt_le, Int64.le_iff_toInt_le, l64]
  show (0 ≤ a.toInt ∧ a.toInt ≤ 2) ↔ _
  omega
theorem oM160 {x : SX} (O : okX x) (a b : Int32) : OpM 3 160 [.int a, .int b] x (.int (divA x a b)) x := by
  intro d P g h ⟨G, M0⟩ hP
  have M := M0.t0
  unfold divA at hP
  generalize hh : pv_st h 102 0 0 = h0 at M
  have F0 : FM h h0 := hh ▸ FM.rf.st (by omega)
  cases hA : inr a 100 with
  | false =>
    rw [hA] at hP
    simp only [e160, z160_0, z160_1, z160_2, z160_5, z160_6, z160_7, z160_8, z160_11, z160_14, z160_17, z160_18, z160_19, z160_20, z160_23, z160_26, z160_29, z160_31, z160_33, z160_38, z160_41, z160_42, z160_45, z160_48, z160_49, z160_50, z160_53, z160_54, z160_57, z160_60, z160_61, z160_64, pv_catN, pv_cat1, pv_cat2, pv_cat3, pv_catL, Option.toList, List.nil_append, List.cons_append, List.append_nil, pv_rfS, pn_i, pn_r, pn_n, pn_o, true_and, and_true, Nat.le_refl, and_self, true_implies, false_implies, not_true_eq_false, not_false_eq_true, pv_b0, pv_b01, pv_bn0, pv_b1, Bool.false_eq_true, Bool.true_eq_false, Bool.not_false, Bool.not_true, pv_bT, pv_bF, eq_self, G.o, m100, in99, hA, hh]
    exact hP h0 ⟨G, M⟩ F0
  | true =>
    cases hB : inr b 3 with
    | false =>
      rw [hA, hB] at hP
      simp only [e160, z160_0, z160_1, z160_2, z160_5, z160_6, z160_7, z160_8, z160_11, z160_14, z160_17, z160_18, z160_19, z160_20, z160_23, z160_26, z160_29, z160_31, z160_33, z160_38, z160_41, z160_42, z160_45, z160_48, z160_49, z160_50, z160_53, z160_54, z160_57, z160_60, z160_61, z160_64, pv_catN, pv_cat1, pv_cat2, pv_cat3, pv_catL, Option.toList, List.nil_append, List.cons_append, List.append_nil, pv_rfS, pn_i, pn_r, pn_n, pn_o, true_and, and_true, Nat.le_refl, and_self, true_implies, false_implies, not_true_eq_false, not_false_eq_true, pv_b0, pv_b01, pv_bn0, pv_b1, Bool.false_eq_true, Bool.true_eq_false, Bool.not_false, Bool.not_true, pv_bT, pv_bF, eq_self, G.o, m100, in99, in2, hA, hB, hh]
      exact hP h0 ⟨G, M⟩ F0
    | true =>
      obtain ⟨m, hm, rfl⟩ := inr_t hA
      obtain ⟨k, hk, rfl⟩ := inr_t hB
      rw [hA, hB, nI_clamp (by omega), nI_clamp (by omega)] at hP
      have hP : ∀ h', RM g h' x → FM h h' → P (some (.int (nI (divX x m k)))) g h' := hP
      simp only [e160, z160_0, z160_1, z160_2, z160_5, z160_6, z160_7, z160_8, z160_11, z160_14, z160_17, z160_18, z160_19, z160_20, z160_23, z160_26, z160_29, z160_31, z160_32, z160_33, z160_37, z160_38, z160_41, z160_42, z160_45, z160_48, z160_49, z160_50, z160_53, z160_54, z160_57, z160_60, z160_61, z160_64, pv_catN, pv_cat1, pv_cat2, pv_cat3, pv_catL, Option.toList, List.nil_append, List.cons_append, List.append_nil, pv_rfS, pn_i, pn_r, pn_n, pn_o, true_and, and_true, Nat.le_refl, and_self, true_implies, false_implies, not_true_eq_false, not_false_eq_true, pv_b0, pv_b01, pv_bn0, pv_b1, Bool.false_eq_true, Bool.true_eq_false, Bool.not_false, Bool.not_true, pv_bT, pv_bF, eq_self, G.o, m100, in99, in2, hA, hB, hh]
      rw [z160_34 (by simp [pv_cat, Value.category]) (by decide)]
      refine ⟨G.o, m159 G M O (by omega) fun h1 f1 f2 B => ?_⟩
      have hP := hP h1 ⟨G, M.fr (fun o h1 h2 => f1 o (by omega)) (fun k hk => f2 k (by omega) (by omega) (by omega))⟩ (fun o ho => by rw [f1 o (by omega)]; exact F0 o ho)
      have hk0 : (nI k = 0) = (k = 0) := nI_eq' (b := 0) (by omega) (by decide)
      have hk1 : (nI k = 1) = (k = 1) := nI_eq' (b := 1) (by omega) (by decide)
      simp only [z160_0, z160_1, z160_2, z160_5, z160_6, z160_7, z160_8, z160_11, z160_14, z160_17, z160_18, z160_19, z160_20, z160_23, z160_26, z160_29, z160_31, z160_32, z160_33, z160_34, z160_37, z160_38, z160_41, z160_42, z160_45, z160_48, z160_49, z160_50, z160_53, z160_54, z160_57, z160_60, z160_61, z160_64, pv_catN, pv_cat1, pv_cat2, pv_cat3, pv_catL, Option.toList, List.nil_append, List.cons_append, List.append_nil, pv_rfS, pn_i, pn_r, pn_n, pn_o, true_and, and_true, Nat.le_refl, and_self, true_implies, false_implies, not_true_eq_false, not_false_eq_true, pv_b0, pv_b01, pv_bn0, pv_b1, Bool.false_eq_true, Bool.true_eq_false, Bool.not_false, Bool.not_true, pv_bT, pv_bF, eq_self, hk0, hk1, G.o, B.1, show h1 102 38 = nI (dv (xT x) (xS x) m (2 ^ tR (xT x) - 1)).2.1 from B.2.1, show h1 102 39 = nI (dv (xT x) (xS x) m (2 ^ tR (xT x) - 1)).2.2 from B.2.2]
      rcases (by omega : k = 0 ∨ k = 1 ∨ k = 2) with rfl | rfl | rfl
      · simpa [divX] using hP
      · simpa [divX] using hP
      · simpa [divX] using hP
