/-! a diver's hour -/
def dTen (s : SS) (r : Nat) : Nat := if sK s r = 1 then 10 else 10 - 2 * (sH s - sP s r)
def dTk (t : ST) (s : SS) (set n : Nat) : Nat := sm (fun r => if set.testBit r then 2 * (sH s - sP s r) + tW t r else 0) n
def dBr (s : SS) (set n : Nat) : Nat := sm (fun r => if set.testBit r then dTen s r * (if sK s r = 2 then 0 else sV s r) else 0) n
def dSub (s : SS) (set : Nat) : Bool := decide (set &&& (2 ^ 32 - (sD s + 1)) = 0)
def dGo (t : ST) (s : SS) (m set : Nat) (b : Nat × Nat × Nat) : Bool := decide (dTk t s set (tR t) ≤ m ∧ (b.1 < dBr s set (tR t) ∨ (dBr s set (tR t) = b.1 ∧ dTk t s set (tR t) < b.2.1)))
def dBst (t : ST) (s : SS) (m set : Nat) (b : Nat × Nat × Nat) : Nat × Nat × Nat := if (dSub s set && dGo t s m set b) = true then (dBr s set (tR t), dTk t s set (tR t), set) else b
def dv (t : ST) (s : SS) (m : Nat) : Nat → Nat × Nat × Nat
  | 0 => (0, 0, 0)
  | k + 1 => dBst t s m (k + 1) (dv t s m k)
theorem dTk_le {t : ST} {s : SS} (T : okT t) (S : okS t s) (set : Nat) {n : Nat} (hn : n ≤ tR t) : dTk t s set n ≤ 152 := by
  have hH := S.2.2.1
  have hF := T.2.1
  have h := sm_le (f := fun r => if set.testBit r then 2 * (sH s - sP s r) + tW t r else 0) (b := 19) (n := n) (fun r hr => by
    have := (T.2.2.2.1 r (by omega)).2.1
    show (if set.testBit r then 2 * (sH s - sP s r) + tW t r else 0) ≤ 19
    split <;> omega)
  have := T.2.2.1
  unfold dTk
  omega
theorem dTen_le (s : SS) (r : Nat) : dTen s r ≤ 10 := by
  unfold dTen
  split <;> omega
theorem dBr_le {t : ST} {s : SS} (T : okT t) (S : okS t s) (set : Nat) {n : Nat} (hn : n ≤ tR t) : dBr s set n ≤ 720 := by
  have h := sm_le (f := fun r => if set.testBit r then dTen s r * (if sK s r = 2 then 0 else sV s r) else 0) (b := 90) (n := n) (fun r hr => by
    have h1 := (S.1 r (by omega)).2.1
    have h2 := dTen_le s r
    show (if set.testBit r then dTen s r * (if sK s r = 2 then 0 else sV s r) else 0) ≤ 90
    split
    · exact Nat.le_trans (Nat.mul_le_mul h2 (show (if sK s r = 2 then 0 else sV s r) ≤ 9 by split <;> omega)) (by decide)
    · omega)
  have := T.2.2.1
  unfold dBr
  omega
theorem dv_le {t : ST} {s : SS} (T : okT t) (S : okS t s) (m : Nat) : ∀ k, (dv t s m k).1 ≤ 720 ∧ (dv t s m k).2.1 ≤ 152 ∧ (dv t s m k).2.2 ≤ k
  | 0 => ⟨Nat.zero_le _, Nat.zero_le _, Nat.le_refl _⟩
  | k + 1 => by
    have ih := dv_le T S m k
    have e : dv t s m (k + 1) = dBst t s m (k + 1) (dv t s m k) := rfl
    rw [e]
    generalize dv t s m k = b at ih
    unfold dBst
    split
    · exact ⟨dBr_le T S _ (Nat.le_refl _), dTk_le T S _ (Nat.le_refl _), Nat.le_refl _⟩
    · exact ⟨ih.1, ih.2.1, Nat.le_succ_of_le ih.2.2⟩
theorem not_D : ∀ D, D < 256 → nI D ^^^ (-1) = nI (2 ^ 32 - (D + 1)) := by decide +kernel
theorem dSub_t {s : SS} {set r : Nat} (hD : sD s < 256) (h : dSub s set = true) (hr : r < 32) (hb : set.testBit r = true) : (sD s).testBit r = true := by
  have h := of_decide_eq_true h
  have e : (set &&& (2 ^ 32 - (sD s + 1))).testBit r = false := by rw [h]; exact Nat.zero_testBit r
  rw [Nat.testBit_and, hb, Nat.testBit_two_pow_sub_succ (by omega), decide_eq_true hr] at e
  cases z : (sD s).testBit r with
  | true => rfl
  | false => rw [z] at e; exact absurd e (by decide)
theorem dSub_f {s : SS} {set R : Nat} (hD : sD s < 256) (hs : set < 2 ^ R) (hR : R ≤ 8) (h : dSub s set = false) : ∃ r, r < R ∧ set.testBit r = true ∧ (sD s).testBit r = false := by
  refine Classical.byContradiction fun hn => ?_
  have h := of_decide_eq_false h
  refine h (Nat.eq_of_testBit_eq fun r => ?_)
  rw [Nat.zero_testBit, Nat.testBit_and]
  by_cases c : r < R
  · cases z : set.testBit r with
    | false => rfl
    | true =>
      cases y : (sD s).testBit r with
      | false => exact absurd ⟨r, c, z, y⟩ hn
      | true => rw [Nat.testBit_two_pow_sub_succ (by omega), y]; simp
  · rw [Nat.testBit_lt_two_pow (Nat.lt_of_lt_of_le hs (Nat.pow_le_pow_right (by decide) (show R ≤ r by omega)))]
    rfl
def hDv (h : PvH) (o k : Nat) (b : Nat × Nat × Nat) : Prop := h o k = nI b.1 ∧ h o (k + 1) = nI b.2.1 ∧ h o (k + 2) = nI b.2.2
theorem mx10 : ∀ e, e < 6 → (if (0 : Int32) < 10 - 2 * nI e then 10 - 2 * nI e else 0) = nI (10 - 2 * e) := by decide +kernel
theorem m10 {d : Nat} {P : PvP} {g : PvG} {h : PvH} {k e : Nat} (hk : k ≤ 3) (he : e < 6) : pv_run (d + 1) 10 [.int (nI k), .int (nI e)] g h P = P (some (.int (nI (if k = 1 then 10 else 10 - 2 * e)))) g h := by
  have hk1 : (nI k = 1) = (k = 1) := nI_eq' (b := 1) (by omega) (by decide)
  simp only [e10, z10_0, z10_1, z10_2, z10_5, z10_7, z10_10, z10_11, z10_13, z10_14, z10_15, z10_16, z10_17, z10_20, pv_catN, pv_cat1, pv_cat2, pv_cat3, pv_catL, Option.toList, List.nil_append, List.cons_append, List.append_nil, pv_rfS, pn_i, pn_r, pn_n, pn_o, true_and, and_true, Nat.le_refl, and_self, true_implies, false_implies, not_true_eq_false, not_false_eq_true, pv_b0, pv_b01, pv_bn0, pv_b1, Bool.false_eq_true, Bool.true_eq_false, Bool.not_false, Bool.not_true, pv_bT, pv_bF, eq_self, hk1, mx10 e he]
  by_cases c : k = 1
  · simp [c]; rfl
  · simp [c]
set_option maxHeartbeats 1000000 in
theorem m9 {d : Nat} {P : PvP} {g : PvG} {h : PvH} {rt tt : Nat} {q : Nat → Nat} {x : SX} (G : gC g rt tt q) (C : cC h rt q x) (O : okX x) {set m : Nat} {b : Nat × Nat × Nat} (hs : set < 256) (hm : m ≤ 99) (hsub : ∀ r, r < tR (xT x) → set.testBit r = true → sP (xS x) r < sH (xS x)) (B : hDv h 101 0 b) (hb1 : b.1 ≤ 720) (hb2 : b.2.1 ≤ 152) (hP : ∀ h' : PvH, (∀ o, o ≠ 101 → h' o = h o) → hDv h' 101 0 (if dGo (xT x) (xS x) m set b then (dBr (xS x) set (tR (xT x)), dTk (xT x) (xS x) set (tR (xT x)), set) else b) → P none g h') : pv_run (d + 2) 9 [.ref 101, .ref rt, .ref 20, .int (nI set), .int (nI m)] g h P := by
  have hR := O.R
  have hF := O.F
  have hH := O.S.2.2.1
  have hTk := dTk_le O.T O.S set (Nat.le_refl (tR (xT x)))
  have hBr := dBr_le O.T O.S set (Nat.le_refl (tR (xT x)))
  have tail : ∀ w w7 : Option Value, pv_E (d + 1) 9 P 104 [some (.ref 101), some (.ref rt), some (.ref 20), some (.int (nI set)), some (.int (nI m)), some (.int (nI (dTk (xT x) (xS x) set (tR (xT x))))), some (.int (nI (dBr (xS x) set (tR (xT x))))), w7, w] [] 0 0 g h := by
    intro w w7
    simp only [z9_0, z9_1, z9_3, z9_4, z9_6, z9_7, z9_11, z9_12, z9_15, z9_18, z9_19, z9_21, z9_24, z9_27, z9_28, z9_31, z9_32, z9_35, z9_37, z9_38, z9_39, z9_41, z9_43, z9_44, z9_46, z9_47, z9_48, z9_51, z9_53, z9_54, z9_55, z9_56, z9_58, z9_60, z9_61, z9_64, z9_66, z9_67, z9_69, z9_72, z9_73, z9_76, z9_78, z9_79, z9_80, z9_83, z9_84, z9_87, z9_88, z9_91, z9_93, z9_94, z9_95, z9_96, z9_98, z9_101, z9_104, z9_106, z9_107, z9_110, z9_113, z9_115, z9_116, z9_119, z9_122, z9_124, z9_125, z9_128, z9_131, z9_132, z9_135, z9_136, z9_138, z9_140, z9_142, z9_145, z9_147, z9_150, z9_151, z9_153, z9_156, z9_157, z9_159, z9_162, z9_163, z9_164, z9_167, pv_catN, pv_cat1, pv_cat2, pv_cat3, pv_catL, Option.toList, List.nil_append, List.cons_append, List.append_nil, pv_rfS, pn_i, pn_r, pn_n, pn_o, true_and, and_true, Nat.le_refl, and_self, true_implies, false_implies, not_true_eq_false, not_false_eq_true, pv_b0, pv_b01, pv_bn0, pv_b1, Bool.false_eq_true, Bool.true_eq_false, Bool.not_false, Bool.not_true, pv_bT, pv_bF, eq_self, G.o101, B.1, show h 101 1 = nI b.2.1 from B.2.1, show ((1 : Int32) = 0) = False from eq_false (by decide), nI_lt' (show b.1 < 2 ^ 31 by omega) (show dBr (xS x) set (tR (xT x)) < 2 ^ 31 by omega), nI_eq' (show dBr (xS x) set (tR (xT x)) < 2 ^ 31 by omega) (show b.1 < 2 ^ 31 by omega), nI_le' (show b.2.1 < 2 ^ 31 by omega) (show dTk (xT x) (xS x) set (tR (xT x)) < 2 ^ 31 by omega), nI_lt' (show m < 2 ^ 31 by omega) (show dTk (xT x) (xS x) set (tR (xT x)) < 2 ^ 31 by omega)]
    have keep : ¬ (dTk (xT x) (xS x) set (tR (xT x)) ≤ m ∧ (b.1 < dBr (xS x) set (tR (xT x)) ∨ (dBr (xS x) set (tR (xT x)) = b.1 ∧ dTk (xT x) (xS x) set (tR (xT x)) < b.2.1))) → P none g h := fun c => hP h (fun _ _ => rfl) (by unfold dGo; rw [decide_eq_false c]; exact B)
    have take : (dTk (xT x) (xS x) set (tR (xT x)) ≤ m ∧ (b.1 < dBr (xS x) set (tR (xT x)) ∨ (dBr (xS x) set (tR (xT x)) = b.1 ∧ dTk (xT x) (xS x) set (tR (xT x)) < b.2.1))) → P none g (pv_st (pv_st (pv_st h 101 0 (nI (dBr (xS x) set (tR (xT x))))) 101 1 (nI (dTk (xT x) (xS x) set (tR (xT x))))) 101 2 (nI set)) := fun c => by
      refine hP _ (fun o ho => by rw [st_o ho, st_o ho, st_o ho]) ?_
      unfold dGo
      rw [decide_eq_true c, if_pos rfl]
      exact ⟨by rw [st_k (by omega), st_k (by omega), st_at], by rw [st_k (by omega), st_at], by rw [st_at]⟩
    refine ⟨fun c1 => ⟨fun c2 => keep (by omega), fun c2 => take (by omega)⟩, fun c1 => ⟨fun c2 => ⟨fun c3 => keep (by omega), fun c3 => keep (by omega)⟩, fun c2 => ⟨fun c3 => ⟨fun c4 => keep (by omega), fun c4 => keep (by omega)⟩, fun c3 => ⟨fun c4 => keep (by omega), fun c4 => take (by omega)⟩⟩⟩⟩
  have loop : ∀ n r (w : Option Value), r + n = tR (xT x) → pv_E (d + 1) 9 P 9 [some (.ref 101), some (.ref rt), some (.ref 20), some (.int (nI set)), some (.int (nI m)), some (.int (nI (dTk (xT x) (xS x) set r))), some (.int (nI (dBr (xS x) set r))), some (.int (nI r)), w] [] 0 0 g h := by
    intro n
    induction n with
    | zero =>
      intro r w hr
      have hr : r = tR (xT x) := hr
      subst hr
      rw [z9_9]
      simp only [z9_11, z9_12, z9_15, pv_catN, pv_cat1, pv_cat2, pv_cat3, pv_catL, Option.toList, List.nil_append, List.cons_append, List.append_nil, pv_rfS, pn_i, pn_r, pn_n, pn_o, true_and, and_true, Nat.le_refl, and_self, true_implies, false_implies, not_true_eq_false, not_false_eq_true, pv_b0, pv_b01, pv_bn0, pv_b1, Bool.false_eq_true, Bool.true_eq_false, Bool.not_false, Bool.not_true, pv_bT, pv_bF, eq_self, G.Tr.1, C.T.2.2.1, nI_le' (show tR (xT x) < 2 ^ 31 by omega) (show tR (xT x) < 2 ^ 31 by omega)]
      exact tail _ _
    | succ n ih =>
      intro r w hr
      have hrR : r < tR (xT x) := by omega
      have hq := O.S.1 r hrR
      have e1 : dTk (xT x) (xS x) set (r + 1) = dTk (xT x) (xS x) set r + (if set.testBit r then 2 * (sH (xS x) - sP (xS x) r) + tW (xT x) r else 0) := rfl
      have e2 : dBr (xS x) set (r + 1) = dBr (xS x) set r + (if set.testBit r then dTen (xS x) r * (if sK (xS x) r = 2 then 0 else sV (xS x) r) else 0) := rfl
      rw [z9_9]
      simp only [z9_11, z9_12, z9_15, z9_18, z9_19, z9_21, z9_24, z9_98, z9_101, pv_catN, pv_cat1, pv_cat2, pv_cat3, pv_catL, Option.toList, List.nil_append, List.cons_append, List.append_nil, pv_rfS, pn_i, pn_r, pn_n, pn_o, true_and, and_true, Nat.le_refl, and_self, true_implies, false_implies, not_true_eq_false, not_false_eq_true, pv_b0, pv_b01, pv_bn0, pv_b1, Bool.false_eq_true, Bool.true_eq_false, Bool.not_false, Bool.not_true, pv_bT, pv_bF, eq_self, G.Tr.1, C.T.2.2.1, nI_le' (show tR (xT x) < 2 ^ 31 by omega) (show r < 2 ^ 31 by omega), show (tR (xT x) ≤ r) = False from eq_false (by omega), m98 (show set < 2 ^ 31 by omega) (show r < 32 by omega), nI_1]
      refine br (fun c => ?_) (fun c => ?_)
      · have := ih (r + 1) w (by omega)
        rw [e1, e2, c] at this
        exact this
      · have hlt := hsub r hrR c
        have es : nI (sH (xS x)) - nI (sP (xS x) r) = nI (sH (xS x) - sP (xS x) r) := pk_sub (by omega)
        have e2m : (2 : Int32) * nI (sH (xS x) - sP (xS x) r) = nI (2 * (sH (xS x) - sP (xS x) r)) := pk_mul 2 _
        have hk2 : (nI (sK (xS x) r) = 2) = (sK (xS x) r = 2) := nI_eq' (b := 2) (by omega) (by decide)
        have ih' := ih (r + 1) (some (.int (nI (sH (xS x) - sP (xS x) r)))) (by omega)
        rw [e1, e2, if_pos c, if_pos c] at ih'
        simp only [z9_27, z9_28, z9_31, z9_32, z9_35, z9_37, z9_38, z9_39, z9_41, z9_43, z9_44, z9_46, z9_47, z9_48, z9_51, z9_53, z9_54, z9_55, z9_56, z9_58, z9_60, z9_61, z9_64, z9_66, z9_67, z9_69, z9_72, z9_73, z9_76, z9_78, z9_79, z9_80, z9_83, z9_84, z9_87, z9_88, z9_91, z9_93, z9_94, z9_95, z9_96, z9_98, z9_101, pv_catN, pv_cat1, pv_cat2, pv_cat3, pv_catL, Option.toList, List.nil_append, List.cons_append, List.append_nil, pv_rfS, pn_i, pn_r, pn_n, pn_o, true_and, and_true, Nat.le_refl, and_self, true_implies, false_implies, not_true_eq_false, not_false_eq_true, pv_b0, pv_b01, pv_bn0, pv_b1, Bool.false_eq_true, Bool.true_eq_false, Bool.not_false, Bool.not_true, pv_bT, pv_bF, eq_self, G.S20.1, G.S20.2.1, G.S20.2.2.1, G.S20.2.2.2.1, G.S20.2.2.2.2.1, G.S20.2.2.2.2.2.1, G.S20.2.2.2.2.2.2, G.Tr.1, G.Tr.2.2.1, G.Tr.2.2.2.2.2.2.2.2.2.1, vp_nI (show r < 8 by omega) (show 8 < 2 ^ 31 by decide), nI_clamp (show r < 2 ^ 31 by omega), C.S.2.2.2.2.1, C.S.1 r hrR, C.S.2.1 r hrR, C.S.2.2.1 r hrR, C.T.2.2.2.1 r hrR, es, e2m, nI_add, m10 hq.2.2 (show sH (xS x) - sP (xS x) r < 6 by omega), hk2, pk_mul, nI_1]
        refine ⟨fun c2 => ?_, fun c2 => ?_⟩
        · rw [if_neg c2] at ih'
          exact ih'
        · rw [if_pos (Classical.not_not.mp c2)] at ih'
          rw [Int32.mul_zero, Int32.add_zero]
          exact ih'
  simp only [e9, z9_0, z9_1, z9_3, z9_4, z9_6, z9_7, pv_catN, pv_cat1, pv_cat2, pv_cat3, pv_catL, Option.toList, List.nil_append, List.cons_append, List.append_nil, pv_rfS, pn_i, pn_r, pn_n, pn_o, true_and, and_true, Nat.le_refl, and_self, true_implies, false_implies, not_true_eq_false, not_false_eq_true, pv_b0, pv_b01, pv_bn0, pv_b1, Bool.false_eq_true, Bool.true_eq_false, Bool.not_false, Bool.not_true, pv_bT, pv_bF, eq_self]
  exact loop (tR (xT x)) 0 _ (Nat.zero_add _)
