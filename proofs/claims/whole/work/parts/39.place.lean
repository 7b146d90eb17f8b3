/-! the class's search for the fewest steps -/
def fo (g : Nat → Nat → Nat) : Nat → Nat → Nat → Nat
  | 0, _, b => b
  | n + 1, t, b => fo g n (t + 1) (g t b)
theorem fo_le {g : Nat → Nat → Nat} (hg : ∀ t b, g t b ≤ b) : ∀ n t b, fo g n t b ≤ b
  | 0, _, _ => Nat.le_refl _
  | n + 1, t, b => Nat.le_trans (fo_le hg n (t + 1) (g t b)) (hg t b)
def plc (W A B : Nat → Nat) (w F : Nat) : List Nat → (Nat → Nat) → Nat → Nat → Nat
  | [], _, st, fw => if fw ≤ st then fw else st
  | ρ :: l, load, st, fw => if fw ≤ st then fw else fo (fun t b => if load t + W ρ ≤ B t then plc W A B w F l (updN load t (load t + W ρ)) (st + A ρ * (t - w)) b else b) (F - w) w fw
theorem plc_le {W A B : Nat → Nat} {w F : Nat} : ∀ l load st fw, plc W A B w F l load st fw ≤ fw
  | [], load, st, fw => by
    unfold plc
    split <;> omega
  | ρ :: l, load, st, fw => by
    unfold plc
    split
    · exact Nat.le_refl _
    · refine fo_le (fun t b => ?_) _ _ _
      split
      · exact plc_le l _ _ b
      · exact Nat.le_refl _
def gW (t : ST) (s : SS) (ρ : Nat) : Nat := wOf (tW t) (grp s ρ (tR t)) (tR t)
def gA (t : ST) (s : SS) (ρ : Nat) : Nat := wOf (tA t) (grp s ρ (tR t)) (tR t)
theorem okT.a {t : ST} (T : okT t) (set : Nat) : wOf (tA t) set (tR t) ≤ 72 := by
  have h := sm_le (f := fun r => if set.testBit r then tA t r else 0) (b := 9) (n := tR t) (fun r hr => by
    have := (T.2.2.2.1 r hr).2.2.1
    show (if set.testBit r then tA t r else 0) ≤ 9
    split <;> omega)
  have := T.2.2.1
  unfold wOf
  omega
def hA (h h0 : PvH) (w fw : Nat) (load : Nat → Nat) : Prop := (∀ o, o ≠ 99 → o ≠ 100 → h o = h0 o) ∧ h 99 2 = nI w ∧ h 99 3 = nI fw ∧ ∀ f, f < 5 → h 100 f = nI (load f)
set_option maxHeartbeats 1000000 in
theorem m6 {P0 : Nat} {g : PvG} {h0 : PvH} {rt tt : Nat} {q : Nat → Nat} {x : SX} (G : gC g rt tt q) (C : cC h0 rt q x) (O : okX x) (U : hU h0 (xT x) (xS x) (rp (xS x) (tR (xT x)))) (r0 : pv_rf g 99 0 = some 79) (r1 : pv_rf g 99 1 = some rt) : ∀ (l : List Nat) (d u st fw : Nat) (load : Nat → Nat) (h : PvH) (P : PvP), (rp (xS x) (tR (xT x))).drop u = l → u + l.length = (rp (xS x) (tR (xT x))).length → st + 300 * l.length ≤ 1000000 → fw ≤ 1000000 → (∀ f, f < tF (xT x) → load f ≤ 99) → hA h h0 (sH (xS x)) fw load → (∀ h', hA h' h0 (sH (xS x)) (plc (gW (xT x) (xS x)) (gA (xT x) (xS x)) (tB (xT x)) (sH (xS x)) (tF (xT x)) l load st fw) load → P none g h') → pv_run (d + l.length + 1) 6 [.ref 99, .int (nI u), .int (nI st)] g h P := by
  have hR := O.R
  have hF := O.F
  have hH := O.S.2.2.1
  have hn := rp_len (xS x) (tR (xT x))
  have G4 := G.rt
  intro l
  induction l with
  | nil =>
    intro d u st fw load h P hu hul hst hfw hld A hP
    have hul : u = (rp (xS x) (tR (xT x))).length := by simpa using hul
    have hst : st ≤ 1000000 := by simpa using hst
    have e79 : h 79 0 = nI (rp (xS x) (tR (xT x))).length := by rw [A.1 79 (by omega) (by omega)]; exact U.1
    have ec : (nI (rp (xS x) (tR (xT x))).length ≤ nI u) = True := eq_true (by rw [hul, nI_le' (by omega) (by omega)]; exact Nat.le_refl _)
    simp only [e6, z6_0, z6_1, z6_2, z6_5, z6_8, z6_9, z6_10, z6_11, z6_14, z6_17, z6_26, z6_27, z6_28, z6_31, pv_catN, pv_cat1, pv_cat2, pv_cat3, pv_catL, Option.toList, List.nil_append, List.cons_append, List.append_nil, pv_rfS, pn_i, pn_r, pn_n, pn_o, true_and, and_true, Nat.le_refl, and_self, true_implies, false_implies, not_true_eq_false, not_false_eq_true, pv_b0, pv_b01, pv_bn0, pv_b1, Bool.false_eq_true, Bool.true_eq_false, Bool.not_false, Bool.not_true, pv_bT, pv_bF, eq_self, G.o99, G.o79, r0, e79, ec, A.2.2.1, nI_lt' (show st < 2 ^ 31 by omega) (show fw < 2 ^ 31 by omega)]
    unfold plc at hP
    refine ⟨fun c => ?_, fun c => ?_⟩
    · rw [if_neg (by omega)] at hP
      refine hP _ ⟨fun o h1 h2 => by rw [st_o h1, A.1 o h1 h2], by rw [st_k (by omega)]; exact A.2.1, st_at, fun f hf => by rw [st_o (by omega)]; exact A.2.2.2 f hf⟩
    · rw [if_pos (by omega)] at hP
      exact hP h A
  | cons ρ l ih =>
    intro d u st fw load h P hu hul hst hfw hld A hP
    have hl1 : (ρ :: l).length = l.length + 1 := rfl
    rw [hl1] at hul hst
    have hu8 : u < 8 := by omega
    have hgu : (rp (xS x) (tR (xT x)))[u]? = some ρ := by
      have := List.getElem?_drop (xs := rp (xS x) (tR (xT x))) (i := u) (j := 0)
      rw [hu, Nat.add_zero] at this
      exact this.symm
    have hdu : (rp (xS x) (tR (xT x))).drop (u + 1) = l := by
      rw [← List.drop_drop, hu]
      rfl
    obtain ⟨u1, u2, u3, u4⟩ := U.2 u ρ hgu
    have hW : gW (xT x) (xS x) ρ ≤ 72 := O.W _
    have hAs : gA (xT x) (xS x) ρ ≤ 72 := O.T.a _
    have e79 : h 79 0 = nI (rp (xS x) (tR (xT x))).length := by rw [A.1 79 (by omega) (by omega)]; exact U.1
    have ec : (nI (rp (xS x) (tR (xT x))).length ≤ nI u) = False := eq_false (by rw [nI_le' (by omega) (by omega)]; omega)
    have e8 : (nI u < 8) = True := eq_true (by rw [show (8 : Int32) = nI 8 from rfl, nI_lt' (by omega) (by decide)]; exact hu8)
    have vu := vp_nI hu8 (show 8 < 2 ^ 31 by decide)
    have cu := nI_clamp (show u < 2 ^ 31 by omega)
    have e81 : ∀ h1 : PvH, (∀ o, o ≠ 99 → o ≠ 100 → h1 o = h0 o) → h1 81 u = nI (gW (xT x) (xS x) ρ) := fun h1 f => by rw [f 81 (by omega) (by omega)]; exact u2
    have e82 : ∀ h1 : PvH, (∀ o, o ≠ 99 → o ≠ 100 → h1 o = h0 o) → h1 82 u = nI (gA (xT x) (xS x) ρ) := fun h1 f => by rw [f 82 (by omega) (by omega)]; exact u3
    -- over the floors
    have loop : ∀ n t b (h1 : PvH) (Q : PvP), t + n = tF (xT x) → sH (xS x) ≤ t → b ≤ 1000000 → hA h1 h0 (sH (xS x)) b load → (∀ h', hA h' h0 (sH (xS x)) (fo (fun t b => if load t + gW (xT x) (xS x) ρ ≤ tB (xT x) t then plc (gW (xT x) (xS x)) (gA (xT x) (xS x)) (tB (xT x)) (sH (xS x)) (tF (xT x)) l (updN load t (load t + gW (xT x) (xS x) ρ)) (st + gA (xT x) (xS x) ρ * (t - sH (xS x))) b else b) n t b) load → Q none g h') → pv_E (d + (l.length + 1)) 6 Q 48 [some (.ref 99), some (.int (nI u)), some (.int (nI st)), some (.int (nI (gW (xT x) (xS x) ρ))), some (.int (nI t))] [] 0 0 g h1 := by
      intro n
      induction n with
      | zero =>
        intro t b h1 Q ht hw hb A1 hQ
        have ht : t = tF (xT x) := ht
        subst ht
        have T1 : h1 rt 0 = nI (tF (xT x)) := by rw [A1.1 rt (by omega) (by omega)]; exact C.T.1
        rw [z6_48]
        simp only [z6_50, z6_51, z6_54, z6_57, z6_136, pv_catN, pv_cat1, pv_cat2, pv_cat3, pv_catL, Option.toList, List.nil_append, List.cons_append, List.append_nil, pv_rfS, pn_i, pn_r, pn_n, pn_o, true_and, and_true, Nat.le_refl, and_self, true_implies, false_implies, not_true_eq_false, not_false_eq_true, pv_b0, pv_b01, pv_bn0, pv_b1, Bool.false_eq_true, Bool.true_eq_false, Bool.not_false, Bool.not_true, pv_bT, pv_bF, eq_self, G.o99, r1, G.Tr.1, T1, nI_le' (show tF (xT x) < 2 ^ 31 by omega) (show tF (xT x) < 2 ^ 31 by omega)]
        exact hQ h1 A1
      | succ n ihn =>
        intro t b h1 Q ht hw hb A1 hQ
        have htF : t < tF (xT x) := by omega
        have T1 : h1 rt 0 = nI (tF (xT x)) := by rw [A1.1 rt (by omega) (by omega)]; exact C.T.1
        have TB : h1 (rt + 1) t = nI (tB (xT x) t) := by rw [A1.1 _ (by omega) (by omega)]; exact C.T.2.1 t htF
        have hB := O.T.2.2.2.2 t htF
        have hL := hld t htF
        have vt := vp_nI (show t < 5 by omega) (show 5 < 2 ^ 31 by decide)
        have ct := nI_clamp (show t < 2 ^ 31 by omega)
        rw [z6_48]
        simp only [z6_50, z6_51, z6_54, z6_57, z6_60, z6_61, z6_64, z6_66, z6_67, z6_68, z6_69, z6_70, z6_73, z6_76, z6_78, z6_79, z6_130, z6_133, pv_catN, pv_cat1, pv_cat2, pv_cat3, pv_catL, Option.toList, List.nil_append, List.cons_append, List.append_nil, pv_rfS, pn_i, pn_r, pn_n, pn_o, true_and, and_true, Nat.le_refl, and_self, true_implies, false_implies, not_true_eq_false, not_false_eq_true, pv_b0, pv_b01, pv_bn0, pv_b1, Bool.false_eq_true, Bool.true_eq_false, Bool.not_false, Bool.not_true, pv_bT, pv_bF, eq_self, G.o99, r1, G.Tr.1, T1, TB, nI_le' (show tF (xT x) < 2 ^ 31 by omega) (show t < 2 ^ 31 by omega), show (tF (xT x) ≤ t) = False from eq_false (by omega), G.r99_4, G.t100, G.Tr.2.1, G.Tr.2.2.2.2.2.2.2.2.1, vt, ct, A1.2.2.2 t (by omega), nI_add, nI_lt' (show tB (xT x) t < 2 ^ 31 by omega) (show load t + gW (xT x) (xS x) ρ < 2 ^ 31 by omega), nI_1]
        have hQ2 := hQ
        unfold fo at hQ2
        refine ⟨fun c => ?_, fun c => ?_⟩
        · rw [if_neg (by omega)] at hQ2
          exact ihn (t + 1) b h1 Q (by omega) (by omega) hb A1 hQ2
        · rw [if_pos (by omega)] at hQ2
          have es : nI t - nI (sH (xS x)) = nI (t - sH (xS x)) := pk_sub (by omega)
          have em : gA (xT x) (xS x) ρ * (t - sH (xS x)) ≤ 72 * 4 := Nat.mul_le_mul hAs (by omega)
          have A2 : hA (pv_st h1 100 t (nI (load t + gW (xT x) (xS x) ρ))) h0 (sH (xS x)) b (updN load t (load t + gW (xT x) (xS x) ρ)) := by
            refine ⟨fun o h1 h2 => by rw [st_o h2, A1.1 o h1 h2], by rw [st_o (by omega)]; exact A1.2.1, by rw [st_o (by omega)]; exact A1.2.2.1, fun f hf => ?_⟩
            unfold updN
            by_cases z : f = t
            · subst z; rw [st_at, if_pos rfl]
            · rw [st_k z, if_neg z]; exact A1.2.2.2 f hf
          simp only [z6_82, z6_83, z6_86, z6_88, z6_89, z6_90, z6_91, z6_92, z6_93, z6_94, z6_95, z6_96, z6_97, z6_98, z6_99, z6_102, z6_105, z6_106, z6_107, z6_109, z6_110, z6_113, z6_114, z6_115, pv_catN, pv_cat1, pv_cat2, pv_cat3, pv_catL, Option.toList, List.nil_append, List.cons_append, List.append_nil, pv_rfS, pn_i, pn_r, pn_n, pn_o, true_and, and_true, Nat.le_refl, and_self, true_implies, false_implies, not_true_eq_false, not_false_eq_true, pv_b0, pv_b01, pv_bn0, pv_b1, Bool.false_eq_true, Bool.true_eq_false, Bool.not_false, Bool.not_true, pv_bT, pv_bF, eq_self, G.o99, G.o79, r0, G.r99_4, G.t100, G.r79_3, G.t82, vt, ct, vu, cu, A1.2.2.2 t (by omega), nI_add, e82 _ A2.1, A2.2.1, es, pk_mul, nI_1]
          rw [z6_116 (by simp [pv_cat, Value.category]) (by decide)]
          refine ih d (u + 1) _ b _ _ _ hdu (by omega) (by omega) hb (fun f hf => ?_) A2 (fun h2 A3 => ?_)
          · unfold updN
            by_cases z : f = t
            · rw [if_pos z]; omega
            · rw [if_neg z]; exact hld f hf
          · have ew : nI (load t + gW (xT x) (xS x) ρ) - nI (gW (xT x) (xS x) ρ) = nI (load t) := by
              rw [show nI (load t + gW (xT x) (xS x) ρ) - nI (gW (xT x) (xS x) ρ) = nI (load t + gW (xT x) (xS x) ρ - gW (xT x) (xS x) ρ) from pk_sub (by omega), Nat.add_sub_cancel]
            have e2 : h2 100 t = nI (load t + gW (xT x) (xS x) ρ) := by
              rw [A3.2.2.2 t (by omega)]
              unfold updN
              rw [if_pos rfl]
            simp only [z6_119, z6_120, z6_123, z6_125, z6_126, z6_127, z6_128, z6_129, z6_130, z6_133, pv_catN, pv_cat1, pv_cat2, pv_cat3, pv_catL, Option.toList, List.nil_append, List.cons_append, List.append_nil, pv_rfS, pn_i, pn_r, pn_n, pn_o, true_and, and_true, Nat.le_refl, and_self, true_implies, false_implies, not_true_eq_false, not_false_eq_true, pv_b0, pv_b01, pv_bn0, pv_b1, Bool.false_eq_true, Bool.true_eq_false, Bool.not_false, Bool.not_true, pv_bT, pv_bF, eq_self, G.o99, G.r99_4, G.t100, vt, ct, e2, ew, nI_1]
            have hpl := plc_le (W := gW (xT x) (xS x)) (A := gA (xT x) (xS x)) (B := tB (xT x)) (w := sH (xS x)) (F := tF (xT x)) l (updN load t (load t + gW (xT x) (xS x) ρ)) (st + gA (xT x) (xS x) ρ * (t - sH (xS x))) b
            refine ihn (t + 1) _ _ Q (by omega) (by omega) (Nat.le_trans hpl hb) ⟨fun o h1 h2 => by rw [st_o h2, A3.1 o h1 h2], by rw [st_o (by omega)]; exact A3.2.1, by rw [st_o (by omega)]; exact A3.2.2.1, fun f hf => ?_⟩ hQ2
            by_cases z : f = t
            · subst z; rw [st_at]
            · rw [st_k z, A3.2.2.2 f hf]
              unfold updN
              rw [if_neg z]
    rw [hl1]
    simp only [e6, z6_0, z6_1, z6_2, z6_5, z6_8, z6_9, z6_10, z6_11, z6_14, z6_17, z6_20, z6_21, z6_23, z6_32, z6_33, z6_36, z6_39, z6_40, z6_41, z6_42, z6_43, z6_46, pv_catN, pv_cat1, pv_cat2, pv_cat3, pv_catL, Option.toList, List.nil_append, List.cons_append, List.append_nil, pv_rfS, pn_i, pn_r, pn_n, pn_o, true_and, and_true, Nat.le_refl, and_self, true_implies, false_implies, not_true_eq_false, not_false_eq_true, pv_b0, pv_b01, pv_bn0, pv_b1, Bool.false_eq_true, Bool.true_eq_false, Bool.not_false, Bool.not_true, pv_bT, pv_bF, eq_self, G.o99, G.o79, r0, e79, ec, e8, A.2.2.1, A.2.1, G.r79_2, G.t81, vu, cu, e81 h A.1, nI_lt' (show st < 2 ^ 31 by omega) (show fw < 2 ^ 31 by omega)]
    unfold plc at hP
    refine ⟨fun c => ?_, fun c => ?_⟩
    · rw [if_neg (by omega)] at hP
      by_cases cF : sH (xS x) ≤ tF (xT x)
      · exact loop (tF (xT x) - sH (xS x)) (sH (xS x)) fw h P (by omega) (Nat.le_refl _) hfw A hP
      · omega
    · rw [if_pos (by omega)] at hP
      exact hP h A
