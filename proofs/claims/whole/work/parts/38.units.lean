/-! units: what is there, by what moves as one -/
def rp (s : SS) : Nat → List Nat
  | 0 => []
  | r + 1 => if th s r && decide (hd (sK s) r = r) then rp s r ++ [r] else rp s r
theorem rp_len (s : SS) : ∀ r, (rp s r).length ≤ r
  | 0 => Nat.le_refl 0
  | r + 1 => by
    have := rp_len s r
    unfold rp
    split
    · rw [List.length_append]; simp; omega
    · omega
theorem rp_mem {s : SS} {ρ : Nat} : ∀ {n}, ρ ∈ rp s n ↔ ρ < n ∧ th s ρ = true ∧ hd (sK s) ρ = ρ := by
  intro n
  induction n with
  | zero => simp [rp]
  | succ n ih =>
    unfold rp
    by_cases c : (th s n && decide (hd (sK s) n = n)) = true
    · rw [if_pos c, List.mem_append, ih, List.mem_singleton]
      have c := Bool.and_eq_true_iff.mp c
      have c2 := of_decide_eq_true c.2
      constructor
      · rintro (⟨a, b⟩ | rfl)
        · exact ⟨by omega, b⟩
        · exact ⟨by omega, c.1, c2⟩
      · rintro ⟨a, b⟩
        rcases Nat.lt_succ_iff_lt_or_eq.mp a with z | z
        · exact Or.inl ⟨z, b⟩
        · exact Or.inr z
    · rw [if_neg c, ih]
      constructor
      · rintro ⟨a, b⟩
        exact ⟨by omega, b⟩
      · rintro ⟨a, b, e⟩
        rcases Nat.lt_succ_iff_lt_or_eq.mp a with z | z
        · exact ⟨z, b, e⟩
        · subst z
          exact absurd (by rw [b, decide_eq_true e]; rfl) c
theorem hd_hd (k : Nat → Nat) : ∀ r, hd k (hd k r) = hd k r
  | 0 => rfl
  | r + 1 => by
    by_cases c : k (r + 1) = 3
    · rw [hd_3 (by omega) c, Nat.add_sub_cancel]
      exact hd_hd k r
    · rw [hd_n c, hd_n c]
theorem th_hd {t : ST} {s : SS} (O : okS t s) : ∀ r, r < tR t → th s (hd (sK s) r) = th s r
  | 0, _ => rfl
  | r + 1, h => by
    by_cases c : sK s (r + 1) = 3
    · rw [hd_3 (by omega) c, Nat.add_sub_cancel, th_hd O r (by omega), th_dn O h c, Nat.add_sub_cancel]
    · rw [hd_n c]
theorem sP_hd {t : ST} {s : SS} (O : okS t s) : ∀ r, r < tR t → sP s (hd (sK s) r) = sP s r
  | 0, _ => rfl
  | r + 1, h => by
    by_cases c : sK s (r + 1) = 3
    · rw [hd_3 (by omega) c, Nat.add_sub_cancel, sP_hd O r (by omega)]
      have := (O.2.2.2.2.2.2.1 (r + 1) h c).2.1
      rw [Nat.add_sub_cancel] at this
      exact this.symm
    · rw [hd_n c]
/-- seen: drowned, or of a unit found before -/
def sn (s : SS) (r R : Nat) : Nat := mk (fun e => (sD s).testBit e || decide (hd (sK s) e < r)) R
theorem sn_0 {s : SS} {R : Nat} (h : sD s < 2 ^ R) : sD s = sn s 0 R := by
  refine bit_ext (n := R) h (mk_lt _ _) (fun r hr => ?_)
  unfold sn
  rw [mk_bit, decide_eq_true hr]
  simp
theorem sn_bit {s : SS} {r R : Nat} (hr : r < R) : (sn s r R).testBit r = !(th s r && decide (hd (sK s) r = r)) := by
  unfold sn th
  rw [mk_bit, decide_eq_true hr]
  have h1 := hd_le (sK s) r
  cases (sD s).testBit r
  · by_cases c : hd (sK s) r = r
    · simp [c]
    · simp [c]; omega
  · simp
theorem sn_no {t : ST} {s : SS} (O : okS t s) {r : Nat} (hr : r < tR t) (h : (th s r && decide (hd (sK s) r = r)) = false) : sn s (r + 1) (tR t) = sn s r (tR t) := by
  refine mk_congr (fun e he => ?_)
  by_cases c : hd (sK s) e = r
  · have h1 := hd_hd (sK s) e
    rw [c] at h1
    rw [h1] at h
    have h2 : th s r = false := by simpa using h
    have h3 := th_hd O e he
    rw [c, h2] at h3
    unfold th at h3
    have h4 : (sD s).testBit e = true := by simpa using h3.symm
    rw [h4]
    rfl
  · have e1 : decide (hd (sK s) e < r + 1) = decide (hd (sK s) e < r) := decide_eq_decide.mpr (by omega)
    rw [e1]
theorem sn_yes {s : SS} {r R : Nat} (h : th s r = true) (h2 : hd (sK s) r = r) : sn s r R ||| grp s r R = sn s (r + 1) R := by
  refine bit_ext (n := R) (Nat.or_lt_two_pow (mk_lt _ _) (mk_lt _ _)) (mk_lt _ _) (fun e he => ?_)
  unfold sn grp
  rw [Nat.testBit_or, mk_bit, mk_bit, mk_bit, decide_eq_true he, h2]
  unfold th
  simp only [Bool.true_and]
  by_cases c : hd (sK s) e = r
  · cases (sD s).testBit e <;> simp [c]
  · have e1 : decide (hd (sK s) e < r + 1) = decide (hd (sK s) e < r) := decide_eq_decide.mpr (by omega)
    rw [e1]
    simp [c]
theorem sn_lt {s : SS} {r R : Nat} (hR : R ≤ 8) : sn s r R < 256 := p8 (mk_lt _ _) hR
def hU (h : PvH) (t : ST) (s : SS) (l : List Nat) : Prop := h 79 0 = nI l.length ∧ ∀ u ρ, l[u]? = some ρ → h 80 u = nI (grp s ρ (tR t)) ∧ h 81 u = nI (wOf (tW t) (grp s ρ (tR t)) (tR t)) ∧ h 82 u = nI (wOf (tA t) (grp s ρ (tR t)) (tR t)) ∧ h 83 u = nI (sP s ρ)
theorem grp_lt {s : SS} {r R : Nat} (hR : R ≤ 8) : grp s r R < 256 := p8 (mk_lt _ _) hR
set_option maxHeartbeats 1000000 in
theorem m55 {d : Nat} {P : PvP} {g : PvG} {h : PvH} {rt tt : Nat} {q : Nat → Nat} {x : SX} (G : gC g rt tt q) (C : cC h rt q x) (O : okX x) (hP : ∀ h' : PvH, (∀ o, (o < 79 ∨ 83 < o) → h' o = h o) → hU h' (xT x) (xS x) (rp (xS x) (tR (xT x))) → P none g h') : pv_run (d + 5) 55 [.ref 79, .ref rt, .ref 20] g h P := by
  have hR := O.R
  have G4 := G.rt
  have loop : ∀ n r (h1 : PvH), r + n = tR (xT x) → (∀ o, (o < 79 ∨ 83 < o) → h1 o = h o) → hU h1 (xT x) (xS x) (rp (xS x) r) → pv_E (d + 4) 55 P 13 [some (.ref 79), some (.ref rt), some (.ref 20), some (.int (nI (sn (xS x) r (tR (xT x))))), some (.int (nI r))] [] 0 0 g h1 := by
    intro n
    induction n with
    | zero =>
      intro r h1 hr f1 U
      have hr : r = tR (xT x) := hr
      subst hr
      have T1 : h1 rt 2 = nI (tR (xT x)) := by rw [f1 rt (by omega)]; exact C.T.2.2.1
      rw [z55_13]
      simp only [z55_15, z55_16, z55_19, z55_147, pv_catN, pv_cat1, pv_cat2, pv_cat3, pv_catL, Option.toList, List.nil_append, List.cons_append, List.append_nil, pv_rfS, pn_i, pn_r, pn_n, pn_o, true_and, and_true, Nat.le_refl, and_self, true_implies, false_implies, not_true_eq_false, not_false_eq_true, pv_b0, pv_b01, pv_bn0, pv_b1, Bool.false_eq_true, Bool.true_eq_false, Bool.not_false, Bool.not_true, pv_bT, pv_bF, eq_self, G.Tr.1, T1, nI_le' (show tR (xT x) < 2 ^ 31 by omega) (show tR (xT x) < 2 ^ 31 by omega)]
      exact hP h1 f1 U
    | succ n ih =>
      intro r h1 hr f1 U
      have hrR : r < tR (xT x) := by omega
      have T1 : h1 rt 2 = nI (tR (xT x)) := by rw [f1 rt (by omega)]; exact C.T.2.2.1
      have hl := rp_len (xS x) r
      have c8 : ((8 : Int32) ≤ nI (rp (xS x) r).length) = False := le8 (by omega)
      have hs := sn_lt (s := xS x) (r := r) hR
      rw [z55_13]
      simp only [z55_15, z55_16, z55_19, z55_22, z55_23, z55_26, z55_28, z55_31, z55_32, z55_34, z55_37, z55_141, z55_144, pv_catN, pv_cat1, pv_cat2, pv_cat3, pv_catL, Option.toList, List.nil_append, List.cons_append, List.append_nil, pv_rfS, pn_i, pn_r, pn_n, pn_o, true_and, and_true, Nat.le_refl, and_self, true_implies, false_implies, not_true_eq_false, not_false_eq_true, pv_b0, pv_b01, pv_bn0, pv_b1, Bool.false_eq_true, Bool.true_eq_false, Bool.not_false, Bool.not_true, pv_bT, pv_bF, eq_self, G.Tr.1, T1, nI_le' (show tR (xT x) < 2 ^ 31 by omega) (show r < 2 ^ 31 by omega), show (tR (xT x) ≤ r) = False from eq_false (by omega), G.o79, U.1, c8, m98 (show sn (xS x) r (tR (xT x)) < 2 ^ 31 by omega) (show r < 32 by omega), sn_bit hrR, nI_1]
      have e : rp (xS x) (r + 1) = if (th (xS x) r && decide (hd (sK (xS x)) r = r)) = true then rp (xS x) r ++ [r] else rp (xS x) r := rfl
      cases hb : (th (xS x) r && decide (hd (sK (xS x)) r = r)) with
      | false =>
        refine ⟨fun _ => ?_, fun c => absurd (by decide) c⟩
        have := ih (r + 1) h1 (by omega) f1 (by rw [e, hb]; exact U)
        rw [sn_no O.S hrR hb] at this
        exact this
      | true =>
        refine ⟨fun c => absurd rfl c, fun _ => ?_⟩
        have hb2 := Bool.and_eq_true_iff.mp hb
        have hbt := hb2.1
        have hbh := of_decide_eq_true hb2.2
        have KS : ∀ h' : PvH, (∀ o, (o < 79 ∨ 83 < o) → h' o = h o) → cS h' 20 (tR (xT x)) (xS x) ∧ cT h' rt (xT x) := fun h' f => ⟨C.S.fr (f _ (by omega)) (f _ (by omega)) (f _ (by omega)) (f _ (by omega)), C.T.fr (fun a h1 h2 => f a (by omega))⟩
        have Uc : h1 79 0 = nI (rp (xS x) r).length := U.1
        generalize hc : (rp (xS x) r).length = c at *
        have hg := grp_lt (s := xS x) (r := r) hR
        have vc := vp_nI (show c < 8 by omega) (show 8 < 2 ^ 31 by decide)
        have cc := nI_clamp (show c < 2 ^ 31 by omega)
        simp only [z55_40, z55_41, z55_44, z55_45, z55_48, z55_49, z55_51, z55_52, pv_catN, pv_cat1, pv_cat2, pv_cat3, pv_catL, Option.toList, List.nil_append, List.cons_append, List.append_nil, pv_rfS, pn_i, pn_r, pn_n, pn_o, true_and, and_true, Nat.le_refl, and_self, true_implies, false_implies, not_true_eq_false, not_false_eq_true, pv_b0, pv_b01, pv_bn0, pv_b1, Bool.false_eq_true, Bool.true_eq_false, Bool.not_false, Bool.not_true, pv_bT, pv_bF, eq_self, G.o79, G.r79_1, G.Tr.1, Uc, T1]
        rw [z55_55 (by simp [pv_cat, Value.category]) (by decide)]
        refine ⟨G.S20.1, m46 G.S20 (KS h1 f1).1 O.S hR hrR hbt ?_⟩
        have k1 : ∀ v, ∀ o, (o < 79 ∨ 83 < o) → pv_st h1 80 c v o = h o := fun v o ho => by rw [st_o (by omega), f1 o ho]
        simp only [z55_58, z55_59, z55_60, z55_63, z55_64, z55_67, z55_68, z55_69, z55_72, z55_73, z55_76, pv_catN, pv_cat1, pv_cat2, pv_cat3, pv_catL, Option.toList, List.nil_append, List.cons_append, List.append_nil, pv_rfS, pn_i, pn_r, pn_n, pn_o, true_and, and_true, Nat.le_refl, and_self, true_implies, false_implies, not_true_eq_false, not_false_eq_true, pv_b0, pv_b01, pv_bn0, pv_b1, Bool.false_eq_true, Bool.true_eq_false, Bool.not_false, Bool.not_true, pv_bT, pv_bF, eq_self, G.o79, G.r79_1, G.r79_2, G.t80, vc, cc, st_at, st_o (show (79 : Nat) ≠ 80 by omega), Uc]
        rw [z55_77 (by simp [pv_cat, Value.category]) (by decide)]
        refine ⟨G.Tr.1, m53 G.Tr (KS _ (k1 _)).2 hg hR ?_⟩
        have k2 : ∀ v w, ∀ o, (o < 79 ∨ 83 < o) → pv_st (pv_st h1 80 c v) 81 c w o = h o := fun v w o ho => by rw [st_o (by omega), st_o (by omega), f1 o ho]
        simp only [z55_80, z55_81, z55_82, z55_85, z55_86, z55_89, z55_90, z55_91, z55_94, z55_95, z55_98, pv_catN, pv_cat1, pv_cat2, pv_cat3, pv_catL, Option.toList, List.nil_append, List.cons_append, List.append_nil, pv_rfS, pn_i, pn_r, pn_n, pn_o, true_and, and_true, Nat.le_refl, and_self, true_implies, false_implies, not_true_eq_false, not_false_eq_true, pv_b0, pv_b01, pv_bn0, pv_b1, Bool.false_eq_true, Bool.true_eq_false, Bool.not_false, Bool.not_true, pv_bT, pv_bF, eq_self, G.o79, G.r79_1, G.r79_2, G.r79_3, G.t80, G.t81, vc, cc, st_at, st_o (show (79 : Nat) ≠ 80 by omega), st_o (show (79 : Nat) ≠ 81 by omega), st_o (show (80 : Nat) ≠ 81 by omega), Uc]
        rw [z55_99 (by simp [pv_cat, Value.category]) (by decide)]
        refine m56 G.Tr (KS _ (k2 _ _)).2 hg hR ?_
        have ePl : h1 21 r = nI (sP (xS x) r) := by rw [f1 21 (by omega)]; exact C.S.1 r hrR
        simp only [z55_102, z55_103, z55_104, z55_107, z55_108, z55_111, z55_112, z55_115, z55_117, z55_118, z55_119, z55_120, z55_121, z55_124, z55_125, z55_128, z55_129, z55_130, z55_131, y55_132, z55_132, z55_133, z55_136, z55_137, z55_138, z55_141, z55_144, pv_catN, pv_cat1, pv_cat2, pv_cat3, pv_catL, Option.toList, List.nil_append, List.cons_append, List.append_nil, pv_rfS, pn_i, pn_r, pn_n, pn_o, true_and, and_true, Nat.le_refl, and_self, true_implies, false_implies, not_true_eq_false, not_false_eq_true, pv_b0, pv_b01, pv_bn0, pv_b1, Bool.false_eq_true, Bool.true_eq_false, Bool.not_false, Bool.not_true, pv_bT, pv_bF, eq_self, G.o79, G.r79_1, G.r79_2, G.r79_3, G.r79_4, G.t80, G.t81, G.t82, G.t83, G.S20.1, G.S20.2.1, G.S20.2.2.2.2.1, vc, cc, vp_nI (show r < 8 by omega) (show 8 < 2 ^ 31 by decide), nI_clamp (show r < 2 ^ 31 by omega), st_at, st_o (show (79 : Nat) ≠ 80 by omega), st_o (show (79 : Nat) ≠ 81 by omega), st_o (show (79 : Nat) ≠ 82 by omega), st_o (show (79 : Nat) ≠ 83 by omega), st_o (show (80 : Nat) ≠ 81 by omega), st_o (show (80 : Nat) ≠ 82 by omega), st_o (show (80 : Nat) ≠ 83 by omega), st_o (show (21 : Nat) ≠ 80 by omega), st_o (show (21 : Nat) ≠ 81 by omega), st_o (show (21 : Nat) ≠ 82 by omega), Uc, ePl, fa_or, sn_yes hbt hbh, nI_1]
        refine ih (r + 1) _ (by omega) (fun o ho => by rw [st_o (by omega), st_o (by omega), st_o (by omega), st_o (by omega), st_o (by omega), f1 o ho]) ?_
        rw [e, hb, if_pos rfl]
        refine ⟨by rw [st_at, List.length_append, hc]; rfl, fun u ρ hu => ?_⟩
        by_cases z : u < c
        · rw [List.getElem?_append_left (by omega)] at hu
          have hu2 := U.2 u ρ hu
          refine ⟨?_, ?_, ?_, ?_⟩
          · rw [st_o (show (80 : Nat) ≠ 79 by omega), st_o (show (80 : Nat) ≠ 83 by omega), st_o (show (80 : Nat) ≠ 82 by omega), st_o (show (80 : Nat) ≠ 81 by omega), st_k (show u ≠ c by omega)]; exact hu2.1
          · rw [st_o (show (81 : Nat) ≠ 79 by omega), st_o (show (81 : Nat) ≠ 83 by omega), st_o (show (81 : Nat) ≠ 82 by omega), st_k (show u ≠ c by omega), st_o (show (81 : Nat) ≠ 80 by omega)]; exact hu2.2.1
          · rw [st_o (show (82 : Nat) ≠ 79 by omega), st_o (show (82 : Nat) ≠ 83 by omega), st_k (show u ≠ c by omega), st_o (show (82 : Nat) ≠ 81 by omega), st_o (show (82 : Nat) ≠ 80 by omega)]; exact hu2.2.2.1
          · rw [st_o (show (83 : Nat) ≠ 79 by omega), st_k (show u ≠ c by omega), st_o (show (83 : Nat) ≠ 82 by omega), st_o (show (83 : Nat) ≠ 81 by omega), st_o (show (83 : Nat) ≠ 80 by omega)]; exact hu2.2.2.2
        · rw [List.getElem?_append_right (by omega), hc] at hu
          have hi : u - c < 1 := (List.getElem?_eq_some_iff.mp hu).1
          obtain rfl : u = c := by omega
          rw [Nat.sub_self] at hu
          cases hu
          refine ⟨?_, ?_, ?_, ?_⟩
          · rw [st_o (show (80 : Nat) ≠ 79 by omega), st_o (show (80 : Nat) ≠ 83 by omega), st_o (show (80 : Nat) ≠ 82 by omega), st_o (show (80 : Nat) ≠ 81 by omega), st_at]
          · rw [st_o (show (81 : Nat) ≠ 79 by omega), st_o (show (81 : Nat) ≠ 83 by omega), st_o (show (81 : Nat) ≠ 82 by omega), st_at]
          · rw [st_o (show (82 : Nat) ≠ 79 by omega), st_o (show (82 : Nat) ≠ 83 by omega), st_at]
          · rw [st_o (show (83 : Nat) ≠ 79 by omega), st_at]
  simp only [e55, z55_0, z55_1, z55_2, z55_5, z55_6, z55_9, z55_10, z55_11, pv_catN, pv_cat1, pv_cat2, pv_cat3, pv_catL, Option.toList, List.nil_append, List.cons_append, List.append_nil, pv_rfS, pn_i, pn_r, pn_n, pn_o, true_and, and_true, Nat.le_refl, and_self, true_implies, false_implies, not_true_eq_false, not_false_eq_true, pv_b0, pv_b01, pv_bn0, pv_b1, Bool.false_eq_true, Bool.true_eq_false, Bool.not_false, Bool.not_true, pv_bT, pv_bF, eq_self, G.o79, G.S20.1, st_o (show (20 : Nat) ≠ 79 by omega), C.S.2.2.2.1]
  have := loop (tR (xT x)) 0 (pv_st h 79 0 0) (Nat.zero_add _) (fun o ho => st_o (by omega)) ⟨by rw [st_at]; rfl, fun u ρ hu => absurd hu (by simp [rp])⟩
  rw [← sn_0 O.S.2.1] at this
  exact this
