/-! BASE: numbers and sets of the specifications; the smallest methods -/
theorem pv_catN : (pv_cat [] ≤ 8) = True := by simp [pv_cat]
theorem pv_cat1 {a : Int32} : (pv_cat [.int a] ≤ 8) = True := by simp [pv_cat, Value.category]
theorem pv_cat2 {a b : Value} : (pv_cat [a, b] ≤ 8) = True := by cases a <;> cases b <;> simp [pv_cat, Value.category]
theorem pv_cat3 {a b c : Value} : (pv_cat [a, b, c] ≤ 8) = True := by cases a <;> cases b <;> cases c <;> simp [pv_cat, Value.category]
theorem pv_catL {a : Value} : (pv_cat [a] ≤ 8) = True := by cases a <;> simp [pv_cat, Value.category]
theorem pn_i {a : Int32} : (pv_nl (some (.int a)) = true) = True := eq_true rfl
theorem pn_r {a : Nat} : (pv_nl (some (.ref a)) = true) = True := eq_true rfl
theorem pn_n : (pv_nl none = true) = True := eq_true rfl
theorem pn_o {x : Option Int32} : (pv_nl (pv_oi x) = true) = True := eq_true (pv_nl_o x)
theorem pv_rfS {a : Nat} : va_rf (some a) = .ref a := rfl
theorem fa_and (a b : Nat) : nI a &&& nI b = nI (a &&& b) := by
  apply Int32.toBitVec_inj.mp
  show BitVec.ofNat 32 a &&& BitVec.ofNat 32 b = BitVec.ofNat 32 (a &&& b)
  exact (BitVec.ofNat_and).symm
theorem fa_or (a b : Nat) : nI a ||| nI b = nI (a ||| b) := by
  apply Int32.toBitVec_inj.mp
  show BitVec.ofNat 32 a ||| BitVec.ofNat 32 b = BitVec.ofNat 32 (a ||| b)
  exact (BitVec.ofNat_or).symm
theorem sm32 : ∀ k, k < 32 → ((nI k &&& 31).toBitVec.smod 32).toNat = k := by decide +kernel
theorem n1 : (1 : Int32) = nI 1 := rfl
theorem n0 : (0 : Int32) = nI 0 := rfl
/-- set >> k & 1 -/
theorem bitN {s k : Nat} (hs : s < 2 ^ 31) (hk : k < 32) : (nI s >>> (nI k &&& 31)) &&& 1 = nI (s.testBit k).toNat := by
  rw [pk_shrN hs _ k (sm32 k hk), n1, fa_and, Nat.testBit_eq_decide_div_mod_eq]
  congr 1
  rw [Nat.and_one_is_mod]
  rcases Nat.mod_two_eq_zero_or_one (s / 2 ^ k) with h | h <;> simp [h]
theorem shlN {k : Nat} (hk : k < 31) : (1 : Int32) <<< (nI k &&& 31) = nI (2 ^ k) := by
  have := pk_shlN (n := 1) (nI k &&& 31) k (sm32 k (by omega)) (by
    have : 2 ^ k < 2 ^ 32 := Nat.pow_lt_pow_right (by decide) (by omega)
    omega)
  rw [Nat.one_mul] at this
  exact this
/-- an answer yes or no -/
def pv_b (b : Bool) : Int32 := if b then 1 else 0
theorem pv_b0 {b : Bool} : (pv_b b = 0) = (b = false) := by cases b <;> simp [pv_b]
theorem pv_b1 {b : Bool} : (pv_b b = 1) = (b = true) := by cases b <;> simp [pv_b]
theorem pv_b01 {b : Bool} : (pv_b b = 0 ∨ pv_b b = 1) = True := by cases b <;> simp [pv_b]
theorem pv_bn0 : ((0 : Int32) = 0) = True := by simp
theorem pv_bT : (pv_b true = 0) = False := by simp [pv_b]
theorem pv_bF : (pv_b false = 0) = True := by simp [pv_b]
theorem m98 {d : Nat} {P : PvP} {g : PvG} {h : PvH} {s k : Nat} (hs : s < 2 ^ 31) (hk : k < 32) : pv_run (d + 1) 98 [.int (nI s), .int (nI k)] g h P = P (some (.int (pv_b (s.testBit k)))) g h := by
  simp only [e98, z98_0, z98_1, z98_2, z98_3, z98_4, z98_5, z98_8, z98_9, z98_12, z98_13, pv_catN, pv_cat1, pv_cat2, pv_cat3, pv_catL, Option.toList, List.nil_append, List.cons_append, List.append_nil, pv_rfS, pn_i, pn_r, pn_n, pn_o, true_and, and_true, Nat.le_refl, and_self, true_implies, false_implies, not_true_eq_false, not_false_eq_true, pv_b0, pv_b01, pv_bn0, pv_b1, Bool.false_eq_true, Bool.true_eq_false, Bool.not_false, Bool.not_true, pv_bT, pv_bF, eq_self, bitN hs hk]
  cases s.testBit k <;> simp [nI, pv_b]
theorem m101 {d : Nat} {P : PvP} {g : PvG} {h : PvH} {s k : Nat} (hs : s < 2 ^ 31) (hk : k < 32) : pv_run (d + 1) 101 [.int (nI s), .int (nI k)] g h P = P (some (.int (pv_b (s.testBit k)))) g h := by
  simp only [e101, z101_0, z101_1, z101_2, z101_3, z101_4, z101_5, z101_6, z101_9, z101_10, z101_13, z101_14, pv_catN, pv_cat1, pv_cat2, pv_cat3, pv_catL, Option.toList, List.nil_append, List.cons_append, List.append_nil, pv_rfS, pn_i, pn_r, pn_n, pn_o, true_and, and_true, Nat.le_refl, and_self, true_implies, false_implies, not_true_eq_false, not_false_eq_true, pv_b0, pv_b01, pv_bn0, pv_b1, Bool.false_eq_true, Bool.true_eq_false, Bool.not_false, Bool.not_true, pv_bT, pv_bF, eq_self, bitN hs hk]
  cases s.testBit k <;> simp [nI, pv_b]
/-! sums and masks, as loops lay them -/
def sm (f : Nat → Nat) : Nat → Nat
  | 0 => 0
  | n + 1 => sm f n + f n
def mk (p : Nat → Bool) : Nat → Nat
  | 0 => 0
  | n + 1 => mk p n ||| (if p n then 2 ^ n else 0)
theorem mk_lt (p : Nat → Bool) : ∀ n, mk p n < 2 ^ n
  | 0 => Nat.zero_lt_one
  | n + 1 => by
    have ih := mk_lt p n
    have h2 : 2 ^ n < 2 ^ (n + 1) := Nat.pow_lt_pow_right (by decide) (by omega)
    unfold mk
    refine Nat.or_lt_two_pow (by omega) ?_
    split <;> omega
theorem mk_bit (p : Nat → Bool) : ∀ n r, (mk p n).testBit r = (decide (r < n) && p r)
  | 0, r => by simp [mk]
  | n + 1, r => by
    unfold mk
    rw [Nat.testBit_or, mk_bit p n r]
    by_cases h : p n
    · rw [if_pos h, Nat.testBit_two_pow]
      by_cases e : r = n
      · subst e; simp [h]
      · have : ¬ n = r := fun q => e q.symm
        simp only [this, decide_false, Bool.or_false]
        congr 1
        exact decide_eq_decide.mpr (by omega)
    · rw [if_neg h, Nat.zero_testBit, Bool.or_false]
      by_cases e : r = n
      · subst e; simp [h]
      · congr 1
        exact decide_eq_decide.mpr (by omega)
theorem mk_congr {p q : Nat → Bool} : ∀ {n}, (∀ r, r < n → p r = q r) → mk p n = mk q n
  | 0, _ => rfl
  | n + 1, h => by
    unfold mk
    rw [mk_congr (fun r hr => h r (by omega)), h n (by omega)]
theorem sm_congr {f k : Nat → Nat} : ∀ {n}, (∀ r, r < n → f r = k r) → sm f n = sm k n
  | 0, _ => rfl
  | n + 1, h => by
    unfold sm
    rw [sm_congr (fun r hr => h r (by omega)), h n (by omega)]
theorem sm_le {f : Nat → Nat} {b : Nat} : ∀ {n}, (∀ r, r < n → f r ≤ b) → sm f n ≤ b * n
  | 0, _ => Nat.zero_le _
  | n + 1, h => by
    unfold sm
    have := sm_le (n := n) (fun r hr => h r (by omega))
    have := h n (by omega)
    rw [Nat.mul_succ]
    omega
theorem bit_ext {a b n : Nat} (ha : a < 2 ^ n) (hb : b < 2 ^ n) (h : ∀ r, r < n → a.testBit r = b.testBit r) : a = b := by
  apply Nat.eq_of_testBit_eq
  intro i
  by_cases hi : i < n
  · exact h i hi
  · rw [Nat.testBit_lt_two_pow (Nat.lt_of_lt_of_le ha (Nat.pow_le_pow_right (by decide) (by omega))), Nat.testBit_lt_two_pow (Nat.lt_of_lt_of_le hb (Nat.pow_le_pow_right (by decide) (by omega)))]
theorem p8 {a R : Nat} (h : a < 2 ^ R) (hR : R ≤ 8) : a < 256 := Nat.lt_of_lt_of_le h (Nat.le_trans (Nat.pow_le_pow_right (by decide) hR) (by decide))
theorem nI_eq' {a b : Nat} (ha : a < 2 ^ 31) (hb : b < 2 ^ 31) : (nI a = nI b) = (a = b) := propext (nI_eq ha hb)
theorem nI_le' {a b : Nat} (ha : a < 2 ^ 31) (hb : b < 2 ^ 31) : (nI a ≤ nI b) = (a ≤ b) := propext (nI_leI ha hb)
theorem nI_lt' {a b : Nat} (ha : a < 2 ^ 31) (hb : b < 2 ^ 31) : (nI a < nI b) = (a < b) := propext (nI_ltI ha hb)
theorem vp_nI {n N : Nat} (h : n < N) (hN : N < 2 ^ 31) : vp_in (nI n) N = True := eq_true (vp_in_nI h hN)
theorem br {c : Bool} {A B : Prop} (ha : c = false → A) (hb : c = true → B) : (c = false → A) ∧ (¬ c = false → B) := ⟨ha, fun q => hb (by cases c <;> simp_all)⟩
/-! THE STATE. A tower: floors, bears, records, weight, asked, whom each cites (bits). A standing: floor, worth, kind of each; who is drowned (bits), water, effort, left -/
abbrev ST : Type := Nat × (Nat → Nat) × Nat × (Nat → Nat) × (Nat → Nat) × (Nat → Nat)
abbrev SS : Type := (Nat → Nat) × (Nat → Nat) × (Nat → Nat) × Nat × Nat × Nat × Nat
def tF (t : ST) : Nat := t.1
def tB (t : ST) : Nat → Nat := t.2.1
def tR (t : ST) : Nat := t.2.2.1
def tW (t : ST) : Nat → Nat := t.2.2.2.1
def tA (t : ST) : Nat → Nat := t.2.2.2.2.1
def tC (t : ST) : Nat → Nat := t.2.2.2.2.2
def sP (s : SS) : Nat → Nat := s.1
def sV (s : SS) : Nat → Nat := s.2.1
def sK (s : SS) : Nat → Nat := s.2.2.1
def sD (s : SS) : Nat := s.2.2.2.1
def sH (s : SS) : Nat := s.2.2.2.2.1
def sE (s : SS) : Nat := s.2.2.2.2.2.1
def sL (s : SS) : Nat := s.2.2.2.2.2.2
/-- who is there -/
def th (s : SS) (r : Nat) : Bool := !(sD s).testBit r
def onF (s : SS) (f : Nat) (R : Nat) : Nat := mk (fun r => th s r && decide (sP s r = f)) R
def wOf (w : Nat → Nat) (set R : Nat) : Nat := sm (fun r => if set.testBit r then w r else 0) R
def kept (s : SS) (R : Nat) : Nat := sm (fun r => if th s r && !decide (sK s r = 2) then sV s r else 0) R
def steps (t : ST) (s : SS) : Nat := sm (fun r => if th s r then tA t r * (sP s r - sH s) else 0) (tR t)
/-- the head of a record's row of joined ones -/
def hd (k : Nat → Nat) : Nat → Nat
  | 0 => 0
  | r + 1 => if k (r + 1) = 3 then hd k r else r + 1
def grp (s : SS) (r R : Nat) : Nat := mk (fun e => th s e && decide (hd (sK s) e = hd (sK s) r)) R
def okT (t : ST) : Prop := 2 ≤ tF t ∧ tF t ≤ 5 ∧ tR t ≤ 8 ∧ (∀ r, r < tR t → 1 ≤ tW t r ∧ tW t r ≤ 9 ∧ tA t r ≤ 9 ∧ tC t r < 2 ^ tR t ∧ (tC t r).testBit r = false) ∧ ∀ f, f < tF t → tB t f ≤ 99
def okS (t : ST) (s : SS) : Prop := (∀ r, r < tR t → sP s r < tF t ∧ sV s r ≤ 9 ∧ sK s r ≤ 3) ∧ sD s < 2 ^ tR t ∧ sH s ≤ tF t ∧ sE s ≤ 99 ∧ sL s ≤ sE s ∧ (∀ r, r < tR t → ((sD s).testBit r = true ↔ sP s r < sH s)) ∧ (∀ r, r < tR t → sK s r = 3 → 0 < r ∧ sP s r = sP s (r - 1) ∧ (sD s).testBit r = (sD s).testBit (r - 1)) ∧ ∀ f, f < tF t → wOf (tW t) (onF s f (tR t)) (tR t) ≤ tB t f
