/-! numbers given; the smallest methods over the state -/
/-- an argument in 0 .. n - 1 -/
def inr (a : Int32) (n : Nat) : Bool := decide (0 ≤ a.toInt ∧ a.toInt < n)
theorem inr_t {a : Int32} {n : Nat} (h : inr a n = true) : ∃ j, j < n ∧ a = nI j := by
  have h := of_decide_eq_true h
  refine ⟨a.toInt.toNat, by omega, ?_⟩
  apply Int32.toInt_inj.mp
  have hb := a.toInt_lt
  rw [nI_toInt (by omega)]
  omega
theorem inr_nI {j n : Nat} (h : j < 2 ^ 31) : inr (nI j) n = decide (j < n) := by
  unfold inr
  rw [nI_toInt h]
  exact decide_eq_decide.mpr (by omega)
theorem lt0 {a : Int32} : (a < 0) = (a.toInt < 0) := propext (by rw [Int32.lt_iff_toInt_lt]; rfl)
theorem le_nI {a : Int32} {n : Nat} (h : n < 2 ^ 31) : (nI n ≤ a) = ((n : Int) ≤ a.toInt) := propext (by rw [Int32.le_iff_toInt_le, nI_toInt h])
theorem lt_nI {a : Int32} {n : Nat} (h : n < 2 ^ 31) : (nI n < a) = ((n : Int) < a.toInt) := propext (by rw [Int32.lt_iff_toInt_lt, nI_toInt h])
theorem m85 {d : Nat} {P : PvP} {g : PvG} {h : PvH} {rt tt : Nat} {q : Nat → Nat} {x : SX} (G : gC g rt tt q) (C : cC h rt q x) (O : okX x) {a : Int32} : pv_run (d + 1) 85 [.ref 0, .int a] g h P = P (some (.int (pv_b (inr a (tF (xT x)))))) g h := by
  have := O.F
  simp only [e85, z85_0, z85_1, z85_4, z85_5, z85_6, z85_9, z85_12, z85_15, z85_16, z85_19, z85_20, pv_catN, pv_cat1, pv_cat2, pv_cat3, pv_catL, Option.toList, List.nil_append, List.cons_append, List.append_nil, pv_rfS, pn_i, pn_r, pn_n, pn_o, true_and, and_true, Nat.le_refl, and_self, true_implies, false_implies, not_true_eq_false, not_false_eq_true, pv_b0, pv_b01, pv_bn0, pv_b1, Bool.false_eq_true, Bool.true_eq_false, Bool.not_false, Bool.not_true, pv_bT, pv_bF, eq_self, G.o0, G.r0_3, G.Tr.1, C.T.1, lt0, le_nI (show tF (xT x) < 2 ^ 31 by omega)]
  by_cases c1 : a.toInt < 0
  · simp [c1, inr, pv_b, show ¬ 0 ≤ a.toInt by omega]
  · by_cases c2 : (tF (xT x) : Int) ≤ a.toInt
    · simp [c1, c2, inr, pv_b, show ¬ a.toInt < (tF (xT x) : Int) by omega]
    · simp [c1, c2, inr, pv_b, show a.toInt < (tF (xT x) : Int) by omega, show 0 ≤ a.toInt by omega]
theorem m86 {d : Nat} {P : PvP} {g : PvG} {h : PvH} {rt tt : Nat} {q : Nat → Nat} {x : SX} (G : gC g rt tt q) (C : cC h rt q x) (O : okX x) {a : Int32} : pv_run (d + 1) 86 [.ref 0, .int a] g h P = P (some (.int (pv_b (inr a (tR (xT x)))))) g h := by
  have := O.R
  simp only [e86, z86_0, z86_1, z86_4, z86_5, z86_6, z86_9, z86_12, z86_15, z86_16, z86_19, z86_20, pv_catN, pv_cat1, pv_cat2, pv_cat3, pv_catL, Option.toList, List.nil_append, List.cons_append, List.append_nil, pv_rfS, pn_i, pn_r, pn_n, pn_o, true_and, and_true, Nat.le_refl, and_self, true_implies, false_implies, not_true_eq_false, not_false_eq_true, pv_b0, pv_b01, pv_bn0, pv_b1, Bool.false_eq_true, Bool.true_eq_false, Bool.not_false, Bool.not_true, pv_bT, pv_bF, eq_self, G.o0, G.r0_3, G.Tr.1, C.T.2.2.1, lt0, le_nI (show tR (xT x) < 2 ^ 31 by omega)]
  by_cases c1 : a.toInt < 0
  · simp [c1, inr, pv_b, show ¬ 0 ≤ a.toInt by omega]
  · by_cases c2 : (tR (xT x) : Int) ≤ a.toInt
    · simp [c1, c2, inr, pv_b, show ¬ a.toInt < (tR (xT x) : Int) by omega]
    · simp [c1, c2, inr, pv_b, show a.toInt < (tR (xT x) : Int) by omega, show 0 ≤ a.toInt by omega]
theorem lcN {a b : Int64} : (lg_cmp a b < 0) = (a < b) := propext (lg_cmp_lt _ _)
theorem lcG {a b : Int64} : (0 < lg_cmp a b) = (b < a) := propext (lg_cmp_gt _ _)
theorem m100 {d : Nat} {P : PvP} {g : PvG} {h : PvH} {a b c : Int64} : pv_run (d + 1) 100 [.long a, .long b, .long c] g h P = P (some (.int (pv_b (decide (b ≤ a ∧ a ≤ c))))) g h := by
  simp only [e100, z100_0, z100_1, z100_2, z100_3, z100_6, z100_7, z100_9, z100_10, z100_13, z100_14, z100_17, z100_18, pv_catN, pv_cat1, pv_cat2, pv_cat3, pv_catL, Option.toList, List.nil_append, List.cons_append, List.append_nil, pv_rfS, pn_i, pn_r, pn_n, pn_o, true_and, and_true, Nat.le_refl, and_self, true_implies, false_implies, not_true_eq_false, not_false_eq_true, pv_b0, pv_b01, pv_bn0, pv_b1, Bool.false_eq_true, Bool.true_eq_false, Bool.not_false, Bool.not_true, pv_bT, pv_bF, eq_self, lcN, lcG]
  by_cases c1 : a < b
  · simp [c1, pv_b, Int64.not_le.mpr c1]
  · by_cases c2 : c < a
    · simp [c1, c2, pv_b, Int64.not_le.mpr c2]
    · simp [c1, c2, pv_b, Int64.not_lt.mp c1, Int64.not_lt.mp c2]
theorem l64 {a : Int32} : a.toInt64.toInt = a.toInt := Int32.toInt_toInt64 a
theorem inr64 {a : Int32} {n : Nat} (hn : 0 < n) (h : n < 2 ^ 31) : decide ((0 : Int64) ≤ a.toInt64 ∧ a.toInt64 ≤ (nI n - 1).toInt64) = inr a n := by
  unfold inr
  apply decide_eq_decide.mpr
  have e : (nI n - 1) = nI (n - 1) := by
    have := nI_pred (n - 1)
    rwa [show n - 1 + 1 = n by omega] at this
  rw [Int64.le_iff_toInt_le, Int64.le_iff_toInt_le, l64, e, l64, nI_toInt (by omega)]
  show (0 ≤ a.toInt ∧ a.toInt ≤ ((n - 1 : Nat) : Int)) ↔ _
  omega
theorem m103 {d : Nat} {P : PvP} {g : PvG} {h : PvH} {x : SX} (G : gM g) (M : cD h x) (O : okX x) {a : Int32} : pv_run (d + 2) 103 [.ref 102, .int a] g h P = P (some (.int (pv_b (!inr a (tF (xT x)))))) g h := by
  have := O.F
  have := O.T.1
  simp only [e103, z103_0, z103_1, z103_2, z103_3, z103_4, z103_7, z103_8, z103_9, z103_10, z103_13, z103_16, z103_17, z103_20, z103_21, pv_catN, pv_cat1, pv_cat2, pv_cat3, pv_catL, Option.toList, List.nil_append, List.cons_append, List.append_nil, pv_rfS, pn_i, pn_r, pn_n, pn_o, true_and, and_true, Nat.le_refl, and_self, true_implies, false_implies, not_true_eq_false, not_false_eq_true, pv_b0, pv_b01, pv_bn0, pv_b1, Bool.false_eq_true, Bool.true_eq_false, Bool.not_false, Bool.not_true, pv_bT, pv_bF, eq_self, G.o, M.M.F, m100, inr64 (show 0 < tF (xT x) by omega) (show tF (xT x) < 2 ^ 31 by omega)]
  cases inr a (tF (xT x)) <;> simp [pv_b]
theorem inr64z {a : Int32} : decide ((0 : Int64) ≤ a.toInt64 ∧ a.toInt64 ≤ (nI 0 - 1).toInt64) = inr a 0 := by
  unfold inr
  apply decide_eq_decide.mpr
  rw [Int64.le_iff_toInt_le, Int64.le_iff_toInt_le, l64, l64]
  show (0 ≤ a.toInt ∧ a.toInt ≤ (-1)) ↔ _
  omega
theorem m102 {d : Nat} {P : PvP} {g : PvG} {h : PvH} {x : SX} (G : gM g) (M : cD h x) (O : okX x) {a : Int32} : pv_run (d + 2) 102 [.ref 102, .int a] g h P = P (some (.int (pv_b (!inr a (tR (xT x)))))) g h := by
  have := O.R
  have e : decide ((0 : Int64) ≤ a.toInt64 ∧ a.toInt64 ≤ (nI (tR (xT x)) - 1).toInt64) = inr a (tR (xT x)) := by
    rcases Nat.eq_zero_or_pos (tR (xT x)) with z | z
    · rw [z]; exact inr64z
    · exact inr64 z (by omega)
  simp only [e102, z102_0, z102_1, z102_2, z102_3, z102_4, z102_7, z102_8, z102_9, z102_10, z102_13, z102_16, z102_17, z102_20, z102_21, pv_catN, pv_cat1, pv_cat2, pv_cat3, pv_catL, Option.toList, List.nil_append, List.cons_append, List.append_nil, pv_rfS, pn_i, pn_r, pn_n, pn_o, true_and, and_true, Nat.le_refl, and_self, true_implies, false_implies, not_true_eq_false, not_false_eq_true, pv_b0, pv_b01, pv_bn0, pv_b1, Bool.false_eq_true, Bool.true_eq_false, Bool.not_false, Bool.not_true, pv_bT, pv_bF, eq_self, G.o, M.M.R, m100, e]
  cases inr a (tR (xT x)) <;> simp [pv_b]
/-- how many are in a set of eight -/
def pc (s : Nat) : Nat := sm (fun r => if s.testBit r then 1 else 0) 8
def bcI (x : Int32) : Int32 :=
  let a := x - ((x.toUInt32 >>> ((1 : Int32).toUInt32 &&& Int32.toUInt32 31)).toInt32 &&& 1431655765)
  let b := (a &&& 858993459) + ((a.toUInt32 >>> ((2 : Int32).toUInt32 &&& Int32.toUInt32 31)).toInt32 &&& 858993459)
  let c := (b + (b.toUInt32 >>> ((4 : Int32).toUInt32 &&& Int32.toUInt32 31)).toInt32) &&& 252645135
  let e := c + (c.toUInt32 >>> ((8 : Int32).toUInt32 &&& Int32.toUInt32 31)).toInt32
  let f := e + (e.toUInt32 >>> ((16 : Int32).toUInt32 &&& Int32.toUInt32 31)).toInt32
  f &&& 63
set_option maxRecDepth 100000 in
theorem bcI_ok : ∀ s, s < 256 → bcI (nI s) = nI (pc s) := by decide +kernel
theorem m165 {d : Nat} {P : PvP} {g : PvG} {h : PvH} {s : Nat} (hs : s < 256) : pv_run (d + 1) 165 [.int (nI s)] g h P = P (some (.int (nI (pc s)))) g h := by
  simp only [e165, z165_0, z165_1, z165_2, z165_3, z165_4, z165_7, z165_8, z165_9, z165_10, z165_11, z165_14, z165_15, z165_16, z165_17, z165_18, z165_21, z165_22, z165_23, z165_24, z165_25, z165_26, z165_27, z165_28, z165_29, z165_32, z165_33, z165_34, z165_35, z165_36, z165_38, z165_39, z165_40, z165_41, z165_42, z165_43, z165_45, z165_46, z165_47, z165_48, z165_49, z165_51, z165_52, pv_catN, pv_cat1, pv_cat2, pv_cat3, pv_catL, Option.toList, List.nil_append, List.cons_append, List.append_nil, pv_rfS, pn_i, pn_r, pn_n, pn_o, true_and, and_true, Nat.le_refl, and_self, true_implies, false_implies, not_true_eq_false, not_false_eq_true, pv_b0, pv_b01, pv_bn0, pv_b1, Bool.false_eq_true, Bool.true_eq_false, Bool.not_false, Bool.not_true, pv_bT, pv_bF, eq_self]
  rw [← bcI_ok s hs]
  rfl
theorem pe_ts {d id pc : Nat} {P : PvP} {ls : PvL} {st : List Value} {cs ss : Nat} {g : PvG} {h : PvH} {dd lo hi : Int} {offs : Array Int} {n : Nat} {x : Int32} (hd : decode (pv_cd id) pc = .ok (.tableswitch dd lo hi offs, n)) {t : Nat} (ht : (pc : Int) + dd = (t : Int)) {ts : Nat → Nat} {m : Nat} (hm : offs.size = m) (hl : hi = lo + m - 1) (hts : ∀ k, k < m → offs[k]?.map (fun o => (pc : Int) + o) = some ((ts k : Nat) : Int)) (k0 : (x.toInt < lo ∨ hi < x.toInt) → pv_E d id P t ls st cs ss g h) (k1 : ∀ k : Nat, k < m → x.toInt = lo + k → pv_E d id P (ts k) ls st cs ss g h) : pv_E d id P pc ls (.int x :: st) cs ss g h := by
  rw [pe_go hd]
  refine ⟨fun c => ⟨by omega, ?_⟩, fun k c1 c2 => ?_⟩
  · rw [ht]; exact k0 c
  · have hk : k < m := by omega
    have h1 := hts k hk
    cases ho : offs[k]? with
    | none => rw [ho] at h1; cases h1
    | some o =>
      rw [ho] at h1
      have h2 : (pc : Int) + o = (ts k : Int) := Option.some.inj h1
      exact ⟨by omega, by rw [h2]; exact k1 k hk c1⟩
