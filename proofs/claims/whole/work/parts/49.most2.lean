/-! most, least, planAt: the class's calls -/
theorem hLoad_now {t : ST} {s : SS} (O : okS t s) {f : Nat} (hf : f < tF t) : hLoad t s (sP s) f ≤ tB t f := by
  have e2 : hLoad t s (sP s) f = wOf (tW t) (onF s f (tR t)) (tR t) := by
    refine sm_congr (fun r hr => ?_)
    show (if th s r = true then (if sP s (hd (sK s) r) = f then tW t r else 0) else 0) = (if (onF s f (tR t)).testBit r then tW t r else 0)
    rw [sP_hd O r hr]
    unfold onF
    rw [mk_bit, decide_eq_true hr, Bool.true_and]
    by_cases c1 : th s r = true <;> by_cases c2 : sP s r = f <;> simp [c1, c2]
  rw [e2]
  exact O.2.2.2.2.2.2.2 f hf
theorem planB_pos {x : SX} (O : okX x) (e : Nat) : 0 < (planB x e).1 := by
  have h := pP_pos (t := xT x) (s := xS x) e 0 (sP (xS x)) (fun _ => 0) 0 (sP (xS x)) (0, 0, sP (xS x)) (fun ρ hρ => (O.S.1 ρ (rp_mem.mp hρ).1).1) (fun f hf => by
    refine Nat.le_trans ?_ (hLoad_now O.S hf)
    rw [← ls_load O.S]
    refine ls_mono (fun a _ => ?_)
    unfold tLoad
    split
    · exact Nat.zero_le _
    · exact Nat.le_refl _)
  rcases h with z | z
  · exact z
  · exact absurd z (Nat.lt_irrefl 0)
theorem planB_bk {x : SX} (O : okX x) {e : Nat} (h : e ≤ 3) : pBk (planB x e) := pP_bk O.T O.S e 0 _ _ 0 _ _ (by omega) ⟨Nat.zero_le _, Nat.zero_le _⟩
theorem rp_nTh {x : SX} (O : okX x) : (rp (xS x) (tR (xT x))).length ≤ nTh x := by
  have hR := O.R
  have h1 : ls (fun _ => 1) (rp (xS x) (tR (xT x))) = (rp (xS x) (tR (xT x))).length := by
    unfold ls
    generalize rp (xS x) (tR (xT x)) = l
    induction l with
    | nil => rfl
    | cons a l ih => rw [List.map_cons, List.sum_cons, ih, List.length_cons, Nat.add_comm]
  have h2 : nTh x = sm (fun r => if th (xS x) r = true then 1 else 0) (tR (xT x)) := by
    unfold nTh pc
    rw [sm_stop hR (fun k h1 h2 => by
      rw [mk_bit, decide_eq_false (by omega)]
      rfl)]
    refine sm_congr (fun r hr => ?_)
    rw [mk_bit, decide_eq_true hr, Bool.true_and]
  rw [← h1, ls_rp, h2]
  have : ∀ n, sm (fun ρ => if (th (xS x) ρ && decide (hd (sK (xS x)) ρ = ρ)) = true then 1 else 0) n ≤ sm (fun r => if th (xS x) r = true then 1 else 0) n := by
    intro n
    induction n with
    | zero => exact Nat.le_refl _
    | succ n ih =>
      refine Nat.add_le_add ih ?_
      show (if (th (xS x) n && decide (hd (sK (xS x)) n = n)) = true then 1 else 0) ≤ (if th (xS x) n = true then 1 else 0)
      cases th (xS x) n
      · simp
      · simp
        split <;> omega
  exact this _
def in13 (a : Int32) : Bool := decide (1 ≤ a.toInt ∧ a.toInt ≤ 3)
theorem in13_t {a : Int32} (h : in13 a = true) : ∃ n, 1 ≤ n ∧ n ≤ 3 ∧ a = nI n := by
  have := of_decide_eq_true h
  have e : inr a 4 = true := decide_eq_true (by omega)
  obtain ⟨j, hj, rfl⟩ := inr_t e
  rw [nI_toInt (by omega)] at this
  exact ⟨j, by omega, by omega, rfl⟩
theorem in13l {a : Int32} : decide ((1 : Int64) ≤ a.toInt64 ∧ a.toInt64 ≤ 3) = in13 a := by
  unfold in13
  apply decide_eq_decide.mpr
  rw [Int64.le_iff_toInt_le, Int64.le_iff_toInt_le, l64]
  exact Iff.rfl
def refA (x : SX) (a : Int32) : Int32 := if in13 a then (if nTh x ≤ 4 then 0 else -3) else -2
def plaA (x : SX) (a : Int32) (v : Nat → Nat) : Int32 := if in13 a then (if nTh x ≤ 4 then nI (v a.toNatClampNeg) else -3) else -2
def mostA (x : SX) (a : Int32) : Int32 := plaA x a (fun e => (planB x e).1 - 1)
def leastA (x : SX) (a : Int32) : Int32 := plaA x a (fun e => (planB x e).2.1)
def planA (x : SX) (a b : Int32) : Int32 := if inr b (tR (xT x)) then plaA x a (fun e => if th (xS x) b.toNatClampNeg = true then (planB x e).2.2 (hd (sK (xS x)) b.toNatClampNeg) else sP (xS x) b.toNatClampNeg) else -1
theorem m91 {d : Nat} {P : PvP} {g : PvG} {h : PvH} {rt tt : Nat} {q : Nat → Nat} {x : SX} (G : gC g rt tt q) (C : cC h rt q x) (O : okX x) (a : Int32) (hP : P (some (.int (refA x a))) g h) : pv_run (d + 3) 91 [.ref 0, .int a] g h P := by
  have hT := nTh_le O
  have e4 : (nI (nTh x) ≤ 4) = (nTh x ≤ 4) := nI_le' (b := 4) (by omega) (by decide)
  unfold refA at hP
  simp only [e91, z91_0, z91_1, z91_2, z91_5, z91_6, z91_7, z91_10, z91_12, z91_13, z91_14, z91_17, z91_18, z91_21, z91_23, z91_26, z91_27, pv_catN, pv_cat1, pv_cat2, pv_cat3, pv_catL, Option.toList, List.nil_append, List.cons_append, List.append_nil, pv_rfS, pn_i, pn_r, pn_n, pn_o, true_and, and_true, Nat.le_refl, and_self, true_implies, false_implies, not_true_eq_false, not_false_eq_true, pv_b0, pv_b01, pv_bn0, pv_b1, Bool.false_eq_true, Bool.true_eq_false, Bool.not_false, Bool.not_true, pv_bT, pv_bF, eq_self, G.o0, m87 G C O, show nI (pc (mk (th (xS x)) (tR (xT x)))) = nI (nTh x) from rfl, e4]
  cases hI : in13 a with
  | false =>
    have := of_decide_eq_false hI
    rw [hI] at hP
    refine ⟨fun _ => hP, fun c1 => ⟨fun c2 => ?_, fun c2 => hP⟩⟩
    exfalso
    rw [Int32.lt_iff_toInt_lt] at c1
    rw [Int32.le_iff_toInt_le] at c2
    have c1 : ¬ a.toInt < 1 := c1
    have c2 : a.toInt ≤ 3 := c2
    omega
  | true =>
    have := of_decide_eq_true hI
    rw [hI] at hP
    simp only [if_true] at hP
    refine ⟨fun c1 => ?_, fun c1 => ⟨fun c2 => ⟨fun c3 => ?_, fun c3 => ?_⟩, fun c2 => ?_⟩⟩
    · exfalso
      rw [Int32.lt_iff_toInt_lt] at c1
      have c1 : a.toInt < 1 := c1
      omega
    · rw [if_pos c3] at hP; exact hP
    · rw [if_neg c3] at hP; exact hP
    · exfalso
      rw [Int32.le_iff_toInt_le] at c2
      have c2 : ¬ a.toInt ≤ 3 := c2
      omega
theorem m92 {d : Nat} {P : PvP} {g : PvG} {h : PvH} {rt tt : Nat} {q : Nat → Nat} {x : SX} (G : gC g rt tt q) (C : cC h rt q x) (O : okX x) (hT : nTh x ≤ 4) {e : Nat} (he1 : 1 ≤ e) (he3 : e ≤ 3) (hP : ∀ g' h', gC g' rt tt q → cC h' rt q x → FG g g' → FC h h' → hU h' (xT x) (xS x) (rp (xS x) (tR (xT x))) → hB h' (xT x) (xS x) (planB x e) → P none g' h') : pv_run (d + 17) 92 [.ref 0, .int (nI e)] g h P := by
  have hl := rp_nTh O
  simp only [e92, z92_0, z92_1, z92_4, z92_5, z92_8, z92_9, pv_catN, pv_cat1, pv_cat2, pv_cat3, pv_catL, Option.toList, List.nil_append, List.cons_append, List.append_nil, pv_rfS, pn_i, pn_r, pn_n, pn_o, true_and, and_true, Nat.le_refl, and_self, true_implies, false_implies, not_true_eq_false, not_false_eq_true, pv_b0, pv_b01, pv_bn0, pv_b1, Bool.false_eq_true, Bool.true_eq_false, Bool.not_false, Bool.not_true, pv_bT, pv_bF, eq_self, G.o0, G.r0_9, G.r0_3, G.r0_4]
  rw [z92_12 (by simp [pv_cat, Value.category]) (by decide)]
  refine ⟨G.o79, m55 G C O fun h1 f1 U => ?_⟩
  have C1 : cC h1 rt q x := C.fr2 G O (fun o ho => f1 o (by omega)) (fun f hf => by rw [f1 _ (by omega)]; exact C.z f hf) (fun e f he hf => by rw [f1 _ (by omega)]; exact C.zl e f he hf)
  simp only [z92_15, z92_16, z92_19, z92_20, z92_23, z92_24, z92_27, z92_28, z92_31, pv_catN, pv_cat1, pv_cat2, pv_cat3, pv_catL, Option.toList, List.nil_append, List.cons_append, List.append_nil, pv_rfS, pn_i, pn_r, pn_n, pn_o, true_and, and_true, Nat.le_refl, and_self, true_implies, false_implies, not_true_eq_false, not_false_eq_true, pv_b0, pv_b01, pv_bn0, pv_b1, Bool.false_eq_true, Bool.true_eq_false, Bool.not_false, Bool.not_true, pv_bT, pv_bF, eq_self, G.o0, G.r0_9, G.r0_3, G.r0_4, G.r0_10]
  rw [z92_32 (by simp [pv_cat, Value.category]) (by decide)]
  refine ⟨G.o84, m12 G C1 O U (by omega) he1 he3 fun g2 h2 G2 F2 f2 hz B => ?_⟩
  simp only [z92_35, pv_catN, pv_cat1, pv_cat2, pv_cat3, pv_catL, Option.toList, List.nil_append, List.cons_append, List.append_nil, pv_rfS, pn_i, pn_r, pn_n, pn_o, true_and, and_true, Nat.le_refl, and_self, true_implies, false_implies, not_true_eq_false, not_false_eq_true, pv_b0, pv_b01, pv_bn0, pv_b1, Bool.false_eq_true, Bool.true_eq_false, Bool.not_false, Bool.not_true, pv_bT, pv_bF, eq_self]
  refine hP g2 h2 G2 (C1.fr2 G2 O (fun o ho => f2 o (by omega)) (fun f hf => by rw [f2 _ (by omega)]; exact C1.z f hf) (fun e f he hf => hz e f he hf)) F2 (fun o ho => by rw [f2 o (by omega), f1 o (by omega)]) ⟨by rw [f2 79 (by omega)]; exact U.1, fun u ρ hu => by rw [f2 80 (by omega), f2 81 (by omega), f2 82 (by omega), f2 83 (by omega)]; exact U.2 u ρ hu⟩ B
theorem refA_p {x : SX} {a : Int32} (h : in13 a = true) (h4 : nTh x ≤ 4) : refA x a = 0 := by
  unfold refA
  rw [if_pos h, if_pos h4]
theorem refA_n {x : SX} {a : Int32} {v : Nat → Nat} (h : ¬ (in13 a = true ∧ nTh x ≤ 4)) : refA x a = plaA x a v ∧ refA x a < 0 ∧ refA x a ≠ 0 := by
  unfold refA plaA
  by_cases c : in13 a = true
  · rw [if_pos c, if_pos c, if_neg (fun z => h ⟨c, z⟩), if_neg (fun z => h ⟨c, z⟩)]
    exact ⟨rfl, by decide, by decide⟩
  · rw [if_neg c, if_neg c]
    exact ⟨rfl, by decide, by decide⟩
theorem lt00 : ((0 : Int32) ≤ 0) = True := eq_true (by decide)
theorem oC73 {x : SX} (O : okX x) (a : Int32) : OpC 18 73 [.int a] x (.int (mostA x a)) x := by
  intro d P g h ⟨rt, tt, q, G, C⟩ hP
  unfold mostA at hP
  simp only [e73, z73_0, z73_1, pv_catN, pv_cat1, pv_cat2, pv_cat3, pv_catL, Option.toList, List.nil_append, List.cons_append, List.append_nil, pv_rfS, pn_i, pn_r, pn_n, pn_o, true_and, and_true, Nat.le_refl, and_self, true_implies, false_implies, not_true_eq_false, not_false_eq_true, pv_b0, pv_b01, pv_bn0, pv_b1, Bool.false_eq_true, Bool.true_eq_false, Bool.not_false, Bool.not_true, pv_bT, pv_bF, eq_self]
  rw [z73_2 (by simp [pv_cat, Value.category]) (by decide)]
  refine ⟨G.o0, m91 G C O a ?_⟩
  simp only [z73_5, z73_6, z73_7, z73_10, z73_11, z73_12, z73_13, pv_catN, pv_cat1, pv_cat2, pv_cat3, pv_catL, Option.toList, List.nil_append, List.cons_append, List.append_nil, pv_rfS, pn_i, pn_r, pn_n, pn_o, true_and, and_true, Nat.le_refl, and_self, true_implies, false_implies, not_true_eq_false, not_false_eq_true, pv_b0, pv_b01, pv_bn0, pv_b1, Bool.false_eq_true, Bool.true_eq_false, Bool.not_false, Bool.not_true, pv_bT, pv_bF, eq_self]
  by_cases c : in13 a = true ∧ nTh x ≤ 4
  · obtain ⟨e, he1, he3, rfl⟩ := in13_t c.1
    rw [refA_p c.1 c.2]
    refine ⟨fun _ => ?_, fun z => absurd (by decide) z⟩
    rw [z73_14 (by simp [pv_cat, Value.category]) (by decide)]
    refine ⟨G.o0, m92 G C O c.2 he1 he3 fun g2 h2 G2 C2 F2 FC2 U B => ?_⟩
    have hp := planB_pos O e
    have e0 : h2 84 0 = nI ((planB x e).1 - 1) := by
      rw [B.1]
      unfold mR
      rw [if_neg (by omega)]
    simp only [z73_17, z73_18, z73_21, z73_24, pv_catN, pv_cat1, pv_cat2, pv_cat3, pv_catL, Option.toList, List.nil_append, List.cons_append, List.append_nil, pv_rfS, pn_i, pn_r, pn_n, pn_o, true_and, and_true, Nat.le_refl, and_self, true_implies, false_implies, not_true_eq_false, not_false_eq_true, pv_b0, pv_b01, pv_bn0, pv_b1, Bool.false_eq_true, Bool.true_eq_false, Bool.not_false, Bool.not_true, pv_bT, pv_bF, eq_self, G2.o0, G2.r0_10, G2.o84, e0]
    have := hP g2 h2 ⟨rt, tt, q, G2, C2⟩ F2 FC2
    unfold plaA at this
    rw [if_pos c.1, if_pos c.2, nI_clamp (by omega)] at this
    exact this
  · obtain ⟨e1, e2, e3⟩ := refA_n (v := fun e => (planB x e).1 - 1) c
    refine ⟨fun z => absurd e2 (Int32.not_lt.mpr z), fun _ => ?_⟩
    rw [e1]
    exact hP g h ⟨rt, tt, q, G, C⟩ FG.rf FC.rf
theorem oC74 {x : SX} (O : okX x) (a : Int32) : OpC 18 74 [.int a] x (.int (leastA x a)) x := by
  intro d P g h ⟨rt, tt, q, G, C⟩ hP
  unfold leastA at hP
  simp only [e74, z74_0, z74_1, pv_catN, pv_cat1, pv_cat2, pv_cat3, pv_catL, Option.toList, List.nil_append, List.cons_append, List.append_nil, pv_rfS, pn_i, pn_r, pn_n, pn_o, true_and, and_true, Nat.le_refl, and_self, true_implies, false_implies, not_true_eq_false, not_false_eq_true, pv_b0, pv_b01, pv_bn0, pv_b1, Bool.false_eq_true, Bool.true_eq_false, Bool.not_false, Bool.not_true, pv_bT, pv_bF, eq_self]
  rw [z74_2 (by simp [pv_cat, Value.category]) (by decide)]
  refine ⟨G.o0, m91 G C O a ?_⟩
  simp only [z74_5, z74_6, z74_7, z74_10, z74_11, z74_12, z74_13, pv_catN, pv_cat1, pv_cat2, pv_cat3, pv_catL, Option.toList, List.nil_append, List.cons_append, List.append_nil, pv_rfS, pn_i, pn_r, pn_n, pn_o, true_and, and_true, Nat.le_refl, and_self, true_implies, false_implies, not_true_eq_false, not_false_eq_true, pv_b0, pv_b01, pv_bn0, pv_b1, Bool.false_eq_true, Bool.true_eq_false, Bool.not_false, Bool.not_true, pv_bT, pv_bF, eq_self]
  by_cases c : in13 a = true ∧ nTh x ≤ 4
  · obtain ⟨e, he1, he3, rfl⟩ := in13_t c.1
    rw [refA_p c.1 c.2]
    refine ⟨fun _ => ?_, fun z => absurd (by decide) z⟩
    rw [z74_14 (by simp [pv_cat, Value.category]) (by decide)]
    refine ⟨G.o0, m92 G C O c.2 he1 he3 fun g2 h2 G2 C2 F2 FC2 U B => ?_⟩
    have hp := planB_pos O e
    have e0 := (B.2 hp).1
    simp only [z74_17, z74_18, z74_21, z74_24, pv_catN, pv_cat1, pv_cat2, pv_cat3, pv_catL, Option.toList, List.nil_append, List.cons_append, List.append_nil, pv_rfS, pn_i, pn_r, pn_n, pn_o, true_and, and_true, Nat.le_refl, and_self, true_implies, false_implies, not_true_eq_false, not_false_eq_true, pv_b0, pv_b01, pv_bn0, pv_b1, Bool.false_eq_true, Bool.true_eq_false, Bool.not_false, Bool.not_true, pv_bT, pv_bF, eq_self, G2.o0, G2.r0_10, G2.o84, e0]
    have := hP g2 h2 ⟨rt, tt, q, G2, C2⟩ F2 FC2
    unfold plaA at this
    rw [if_pos c.1, if_pos c.2, nI_clamp (by omega)] at this
    exact this
  · obtain ⟨e1, e2, e3⟩ := refA_n (v := fun e => (planB x e).2.1) c
    refine ⟨fun z => absurd e2 (Int32.not_lt.mpr z), fun _ => ?_⟩
    rw [e1]
    exact hP g h ⟨rt, tt, q, G, C⟩ FG.rf FC.rf
theorem m57 {d : Nat} {P : PvP} {g : PvG} {h : PvH} {rt tt : Nat} {q : Nat → Nat} {x : SX} (G : gC g rt tt q) (O : okX x) (U : hU h (xT x) (xS x) (rp (xS x) (tR (xT x)))) {r : Nat} (hr : r < tR (xT x)) (h1 : ∀ u, th (xS x) r = true → (rp (xS x) (tR (xT x)))[u]? = some (hd (sK (xS x)) r) → P (some (.int (nI u))) g h) (h2 : th (xS x) r = false → P (some (.int (-1))) g h) : pv_run (d + 2) 57 [.ref 79, .int (nI r)] g h P := by
  have hR := O.R
  have hl := rp_len (xS x) (tR (xT x))
  have loop : ∀ n u, u + n = (rp (xS x) (tR (xT x))).length → (∀ i, i < u → th (xS x) r = true → (rp (xS x) (tR (xT x)))[i]? ≠ some (hd (sK (xS x)) r)) → pv_E (d + 1) 57 P 2 [some (.ref 79), some (.int (nI r)), some (.int (nI u))] [] 0 0 g h := by
    intro n
    induction n with
    | zero =>
      intro u hu hn
      have hu : u = (rp (xS x) (tR (xT x))).length := hu
      rw [z57_2]
      simp only [z57_3, z57_4, z57_7, z57_31, z57_32, pv_catN, pv_cat1, pv_cat2, pv_cat3, pv_catL, Option.toList, List.nil_append, List.cons_append, List.append_nil, pv_rfS, pn_i, pn_r, pn_n, pn_o, true_and, and_true, Nat.le_refl, and_self, true_implies, false_implies, not_true_eq_false, not_false_eq_true, pv_b0, pv_b01, pv_bn0, pv_b1, Bool.false_eq_true, Bool.true_eq_false, Bool.not_false, Bool.not_true, pv_bT, pv_bF, eq_self, G.o79, U.1, hu, nI_le' (show (rp (xS x) (tR (xT x))).length < 2 ^ 31 by omega) (show (rp (xS x) (tR (xT x))).length < 2 ^ 31 by omega)]
      refine h2 ?_
      cases ht : th (xS x) r with
      | false => rfl
      | true =>
        exfalso
        have hm : hd (sK (xS x)) r ∈ rp (xS x) (tR (xT x)) := rp_mem.mpr ⟨Nat.lt_of_le_of_lt (hd_le _ _) hr, by rw [th_hd O.S r hr]; exact ht, hd_hd _ _⟩
        obtain ⟨i, hi, he⟩ := List.getElem_of_mem hm
        exact hn i (by omega) ht (by rw [List.getElem?_eq_getElem hi, he])
    | succ n ih =>
      intro u hu hn
      obtain ⟨ρ, hρ⟩ : ∃ ρ, (rp (xS x) (tR (xT x)))[u]? = some ρ := ⟨_, List.getElem?_eq_getElem (by omega)⟩
      have hm := rp_mem.mp (List.mem_of_getElem? hρ)
      have hg := grp_lt (s := xS x) (r := ρ) hR
      rw [z57_2]
      simp only [z57_0, z57_1, z57_3, z57_4, z57_7, z57_10, z57_11, z57_14, z57_15, z57_16, z57_17, z57_20, z57_23, z57_24, z57_25, z57_28, z57_31, z57_32, pv_catN, pv_cat1, pv_cat2, pv_cat3, pv_catL, Option.toList, List.nil_append, List.cons_append, List.append_nil, pv_rfS, pn_i, pn_r, pn_n, pn_o, true_and, and_true, Nat.le_refl, and_self, true_implies, false_implies, not_true_eq_false, not_false_eq_true, pv_b0, pv_b01, pv_bn0, pv_b1, Bool.false_eq_true, Bool.true_eq_false, Bool.not_false, Bool.not_true, pv_bT, pv_bF, eq_self, G.o79, U.1, nI_le' (show (rp (xS x) (tR (xT x))).length < 2 ^ 31 by omega) (show u < 2 ^ 31 by omega), show ((rp (xS x) (tR (xT x))).length ≤ u) = False from eq_false (by omega), G.r79_1, G.t80, vp_nI (show u < 8 by omega) (show 8 < 2 ^ 31 by decide), nI_clamp (show u < 2 ^ 31 by omega), (U.2 u ρ hρ).1, m98 (show grp (xS x) ρ (tR (xT x)) < 2 ^ 31 by omega) (show r < 32 by omega), grp_bit hr hm.2.2, nI_1]
      refine br (fun c => ?_) (fun c => ?_)
      · refine ih (u + 1) (by omega) (fun i hi ht he => ?_)
        rcases Nat.lt_succ_iff_lt_or_eq.mp hi with z | z
        · exact hn i z ht he
        · subst z
          rw [hρ] at he
          cases he
          rw [ht] at c
          simp at c
      · have c := Bool.and_eq_true_iff.mp c
        exact h1 u c.1 (by rw [hρ, of_decide_eq_true c.2])
  simp only [e57, z57_0, z57_1, pv_catN, pv_cat1, pv_cat2, pv_cat3, pv_catL, Option.toList, List.nil_append, List.cons_append, List.append_nil, pv_rfS, pn_i, pn_r, pn_n, pn_o, true_and, and_true, Nat.le_refl, and_self, true_implies, false_implies, not_true_eq_false, not_false_eq_true, pv_b0, pv_b01, pv_bn0, pv_b1, Bool.false_eq_true, Bool.true_eq_false, Bool.not_false, Bool.not_true, pv_bT, pv_bF, eq_self]
  exact loop _ 0 (Nat.zero_add _) (fun i hi => absurd hi (Nat.not_lt_zero i))
theorem oC75 {x : SX} (O : okX x) (a b : Int32) : OpC 18 75 [.int a, .int b] x (.int (planA x a b)) x := by
  intro d P g h ⟨rt, tt, q, G, C⟩ hP
  have hR := O.R
  unfold planA at hP
  cases hI : inr b (tR (xT x)) with
  | false =>
    rw [hI] at hP
    have hP := hP g h ⟨rt, tt, q, G, C⟩ FG.rf FC.rf
    simp only [e75, z75_0, z75_1, z75_2, z75_5, z75_8, z75_9, pv_catN, pv_cat1, pv_cat2, pv_cat3, pv_catL, Option.toList, List.nil_append, List.cons_append, List.append_nil, pv_rfS, pn_i, pn_r, pn_n, pn_o, true_and, and_true, Nat.le_refl, and_self, true_implies, false_implies, not_true_eq_false, not_false_eq_true, pv_b0, pv_b01, pv_bn0, pv_b1, Bool.false_eq_true, Bool.true_eq_false, Bool.not_false, Bool.not_true, pv_bT, pv_bF, eq_self, G.o0, m86 G C O, hI]
    exact hP
  | true =>
    obtain ⟨r, hr, rfl⟩ := inr_t hI
    rw [hI, nI_clamp (show r < 2 ^ 31 by omega)] at hP
    simp only [if_true] at hP
    simp only [e75, z75_0, z75_1, z75_2, z75_5, z75_10, z75_11, pv_catN, pv_cat1, pv_cat2, pv_cat3, pv_catL, Option.toList, List.nil_append, List.cons_append, List.append_nil, pv_rfS, pn_i, pn_r, pn_n, pn_o, true_and, and_true, Nat.le_refl, and_self, true_implies, false_implies, not_true_eq_false, not_false_eq_true, pv_b0, pv_b01, pv_bn0, pv_b1, Bool.false_eq_true, Bool.true_eq_false, Bool.not_false, Bool.not_true, pv_bT, pv_bF, eq_self, G.o0, m86 G C O, hI]
    rw [z75_12 (by simp [pv_cat, Value.category]) (by decide)]
    refine ⟨G.o0, m91 G C O a ?_⟩
    simp only [z75_15, z75_16, z75_17, z75_20, z75_21, z75_22, z75_23, pv_catN, pv_cat1, pv_cat2, pv_cat3, pv_catL, Option.toList, List.nil_append, List.cons_append, List.append_nil, pv_rfS, pn_i, pn_r, pn_n, pn_o, true_and, and_true, Nat.le_refl, and_self, true_implies, false_implies, not_true_eq_false, not_false_eq_true, pv_b0, pv_b01, pv_bn0, pv_b1, Bool.false_eq_true, Bool.true_eq_false, Bool.not_false, Bool.not_true, pv_bT, pv_bF, eq_self]
    by_cases c : in13 a = true ∧ nTh x ≤ 4
    · obtain ⟨e, he1, he3, rfl⟩ := in13_t c.1
      rw [refA_p c.1 c.2]
      refine ⟨fun _ => ?_, fun z => absurd (by decide) z⟩
      rw [z75_24 (by simp [pv_cat, Value.category]) (by decide)]
      refine ⟨G.o0, m92 G C O c.2 he1 he3 fun g2 h2 G2 C2 F2 FC2 U B => ?_⟩
      have hp := planB_pos O e
      have hl := rp_nTh O
      have hP := hP g2 h2 ⟨rt, tt, q, G2, C2⟩ F2 FC2
      unfold plaA at hP
      rw [if_pos c.1, if_pos c.2, nI_clamp (by omega)] at hP
      have hP : P (some (.int (nI (if th (xS x) r = true then (planB x e).2.2 (hd (sK (xS x)) r) else sP (xS x) r)))) g2 h2 := hP
      simp only [z75_27, z75_28, z75_31, pv_catN, pv_cat1, pv_cat2, pv_cat3, pv_catL, Option.toList, List.nil_append, List.cons_append, List.append_nil, pv_rfS, pn_i, pn_r, pn_n, pn_o, true_and, and_true, Nat.le_refl, and_self, true_implies, false_implies, not_true_eq_false, not_false_eq_true, pv_b0, pv_b01, pv_bn0, pv_b1, Bool.false_eq_true, Bool.true_eq_false, Bool.not_false, Bool.not_true, pv_bT, pv_bF, eq_self, G2.o0, G2.r0_9]
      rw [z75_32 (by simp [pv_cat, Value.category]) (by decide)]
      refine ⟨G2.o79, m57 G2 O U hr (fun u ht hu => ?_) (fun ht => ?_)⟩
      · have hu4 := (List.getElem?_eq_some_iff.mp hu).1
        have l0 : (nI u < 0) = False := eq_false (by rw [show (0 : Int32) = nI 0 from rfl, nI_lt' (by omega) (by decide)]; omega)
        have l4 : (nI u < 4) = True := eq_true (by rw [show (4 : Int32) = nI 4 from rfl, nI_lt' (by omega) (by decide)]; omega)
        simp only [z75_35, z75_37, z75_39, z75_42, z75_44, z75_45, z75_58, z75_59, z75_62, z75_65, z75_67, z75_68, pv_catN, pv_cat1, pv_cat2, pv_cat3, pv_catL, Option.toList, List.nil_append, List.cons_append, List.append_nil, pv_rfS, pn_i, pn_r, pn_n, pn_o, true_and, and_true, Nat.le_refl, and_self, true_implies, false_implies, not_true_eq_false, not_false_eq_true, pv_b0, pv_b01, pv_bn0, pv_b1, Bool.false_eq_true, Bool.true_eq_false, Bool.not_false, Bool.not_true, pv_bT, pv_bF, eq_self, l0, l4, G2.o0, G2.r0_10, G2.o84, G2.r84_2, G2.t85, vp_nI (show u < 4 by omega) (show 4 < 2 ^ 31 by decide), nI_clamp (show u < 2 ^ 31 by omega), (B.2 hp).2 u _ hu]
        rw [if_pos ht] at hP
        exact hP
      · simp only [z75_35, z75_37, z75_39, z75_48, z75_49, z75_52, z75_55, z75_56, z75_57, pv_catN, pv_cat1, pv_cat2, pv_cat3, pv_catL, Option.toList, List.nil_append, List.cons_append, List.append_nil, pv_rfS, pn_i, pn_r, pn_n, pn_o, true_and, and_true, Nat.le_refl, and_self, true_implies, false_implies, not_true_eq_false, not_false_eq_true, pv_b0, pv_b01, pv_bn0, pv_b1, Bool.false_eq_true, Bool.true_eq_false, Bool.not_false, Bool.not_true, pv_bT, pv_bF, eq_self, show ((-1 : Int32) < 0) = True from eq_true (by decide), G2.o0, G2.r0_4, G2.S20.1, G2.S20.2.1, G2.S20.2.2.2.2.1, vp_nI (show r < 8 by omega) (show 8 < 2 ^ 31 by decide), nI_clamp (show r < 2 ^ 31 by omega), C2.S.1 r hr]
        rw [ht] at hP
        exact hP
    · obtain ⟨e1, e2, e3⟩ := refA_n (v := fun e => if th (xS x) r = true then (planB x e).2.2 (hd (sK (xS x)) r) else sP (xS x) r) c
      refine ⟨fun z => absurd e2 (Int32.not_lt.mpr z), fun _ => ?_⟩
      rw [e1]
      exact hP g h ⟨rt, tt, q, G, C⟩ FG.rf FC.rf
