/-! most, least, planAt: the class -/
theorem m14_all {g : PvG} {rt tt : Nat} {q : Nat → Nat} {x : SX} (G : gC g rt tt q) (r3 : pv_rf g 84 3 = some 79) (O : okX x) (hc4 : (rp (xS x) (tR (xT x))).length ≤ 4) : ∀ n l, S14 g x n l := by
  intro n
  induction n with
  | zero =>
    intro l
    induction l with
    | nil => exact m14_nil0 G r3 O hc4
    | cons ρ l ih => exact m14_cons G r3 O hc4 ih
  | succ n ihn =>
    intro l
    induction l with
    | nil => exact m14_nilS O (ihn _)
    | cons ρ l ih => exact m14_cons G r3 O hc4 ih
def planB (x : SX) (d : Nat) : PB := pP (xT x) (xS x) d 0 (sP (xS x)) (fun _ => 0) 0 (sP (xS x)) (0, 0, sP (xS x))
theorem cpy5 {h : PvH} {a0 a1 j : Nat} (hj : j < 5) : pv_cpy h a0 a1 0 0 5 a1 j = h a0 j := cpy_at hj
theorem cl5 : (5 : Int32).toNatClampNeg = 5 := rfl
theorem okX.al {x : SX} (O : okX x) {ρ : Nat} (h : ρ ∈ rp (xS x) (tR (xT x))) : ¬ sP (xS x) ρ < sH (xS x) := by
  have h := rp_mem.mp h
  have := O.hw ρ h.1 h.2.1
  omega
set_option maxHeartbeats 2000000 in
theorem m12 {d : Nat} {P : PvP} {g : PvG} {h : PvH} {rt tt : Nat} {q : Nat → Nat} {x : SX} (G : gC g rt tt q) (C : cC h rt q x) (O : okX x) (U : hU h (xT x) (xS x) (rp (xS x) (tR (xT x)))) (hc4 : (rp (xS x) (tR (xT x))).length ≤ 4) {e : Nat} (he1 : 1 ≤ e) (he3 : e ≤ 3) (hP : ∀ g' h', gC g' rt tt q → FG g g' → (∀ o, (o < 84 ∨ 98 < o) → h' o = h o) → (∀ j f, j < 3 → f < 5 → h' (89 + j) f = 0) → hB h' (xT x) (xS x) (planB x e) → P none g' h') : pv_run (d + 16) 12 [.ref 84, .ref rt, .ref 20, .ref 79, .int (nI e)] g h P := by
  have hR := O.R
  have hF := O.F
  have hH := O.S.2.2.1
  have hE := O.S.2.2.2.1
  have hLE := O.S.2.2.2.2.1
  have G4 := G.rt
  have G1 : gC (pv_sr g 84 3 (some 79)) rt tt q := G.fr (fun _ => rfl) (fun o k h1 h2 => by rw [sr_ne (by omega)])
  have FG1 : FG g (pv_sr g 84 3 (some 79)) := ⟨fun _ => rfl, fun o k ho => by rw [sr_ne (by omega)]⟩
  have r3 : pv_rf (pv_sr g 84 3 (some 79)) 84 3 = some 79 := sr_at
  generalize hcc : (rp (xS x) (tR (xT x))).length = c at *
  have hec : e * c ≤ 3 * 4 := Nat.mul_le_mul he3 hc4
  have U0 : h 79 0 = nI c := by rw [← hcc]; exact U.1
  have q4 : ((4 : Int32) < nI c) = False := eq_false (by rw [show (4 : Int32) = nI 4 from rfl, nI_lt' (by decide) (by omega)]; omega)
  have q3 : (nI e ≤ 3) = True := eq_true (by rw [show (3 : Int32) = nI 3 from rfl, nI_le' (by omega) (by decide)]; exact he3)
  have n1 : ∀ (k : Nat) (v : Int32) (h1 : PvH), pv_st h1 84 k v 79 = h1 79 := fun k v h1 => st_o (by omega)
  have n2 : ∀ (k : Nat) (v : Int32) (h1 : PvH), pv_st h1 84 k v rt = h1 rt := fun k v h1 => st_o (by omega)
  have n3 : ∀ (k : Nat) (v : Int32) (h1 : PvH), pv_st h1 84 k v 20 = h1 20 := fun k v h1 => st_o (by omega)
  simp only [e12, z12_0, z12_1, z12_2, z12_5, z12_6, z12_7, z12_10, z12_11, z12_14, z12_15, z12_18, z12_20, z12_21, z12_25, z12_26, z12_27, pv_catN, pv_cat1, pv_cat2, pv_cat3, pv_catL, Option.toList, List.nil_append, List.cons_append, List.append_nil, pv_rfS, pn_i, pn_r, pn_n, pn_o, true_and, and_true, Nat.le_refl, and_self, true_implies, false_implies, not_true_eq_false, not_false_eq_true, pv_b0, pv_b01, pv_bn0, pv_b1, Bool.false_eq_true, Bool.true_eq_false, Bool.not_false, Bool.not_true, pv_bT, pv_bF, eq_self, G.o84, G.o79, n1, n2, n3, U0, q4, q3]
  generalize pv_sr g 84 3 (some 79) = g1 at *
  simp only [z12_30, z12_31, z12_32, z12_35, z12_38, z12_39, z12_40, z12_43, z12_46, z12_47, z12_49, z12_50, z12_53, z12_54, z12_57, z12_58, z12_61, z12_62, z12_63, z12_66, z12_67, z12_68, z12_71, z12_72, pv_catN, pv_cat1, pv_cat2, pv_cat3, pv_catL, Option.toList, List.nil_append, List.cons_append, List.append_nil, pv_rfS, pn_i, pn_r, pn_n, pn_o, true_and, and_true, Nat.le_refl, and_self, true_implies, false_implies, not_true_eq_false, not_false_eq_true, pv_b0, pv_b01, pv_bn0, pv_b1, Bool.false_eq_true, Bool.true_eq_false, Bool.not_false, Bool.not_true, pv_bT, pv_bF, eq_self, G1.o84, G1.o79, G1.Tr.1, G1.S20.1, n1, n2, n3, U0, C.T.1, C.S.2.2.2.2.1, pk_mul, G1.Tr.2.1, G1.Tr.2.2.2.2.2.2.2.2.1, G1.r84_7, G1.t86, cl0, cl5, Nat.zero_add, show (¬ (0 : Int32) < 0) = True from eq_true (by decide), show (¬ (5 : Int32) < 0) = True from eq_true (by decide)]
  -- the heap when the search is laid
  have last : ∀ h1 : PvH, (∀ o, o < 84 ∨ 98 < o → h1 o = h o) → (∀ j f, j < 3 → f < 5 → h1 (89 + j) f = 0) → h1 84 0 = -1 → h1 84 4 = nI (tF (xT x)) → h1 84 5 = nI (sH (xS x)) → h1 84 6 = nI (e * c) → (∀ f, f < tF (xT x) → h1 86 f = nI (tB (xT x) f)) → (∀ j, j < e → h1 87 j = nI (pLim (xS x) j)) → (∀ u ρ, (rp (xS x) (tR (xT x)))[u]? = some ρ → ∀ k, k ≤ 3 → h1 (93 + u) k = nI (wor (xT x) (xS x) ρ k)) → ∀ w7 : Option Value, pv_E (d + 15) 12 P 184 [some (.ref 84), some (.ref rt), some (.ref 20), some (.ref 79), some (.int (nI e)), some (.int (nI (ls (fun ρ => wor (xT x) (xS x) ρ 0) (rp (xS x) (tR (xT x)))))), some (.int (nI c)), w7] [] 0 0 g1 h1 := by
    intro h1 f1 hz e0 e4 e5 e6 e86 e87 ew w7
    obtain ⟨n, rfl⟩ : ∃ n, e = n + 1 := ⟨e - 1, by omega⟩
    have e80 : ∀ o, o < 84 → h1 o = h o := fun o ho => f1 o (Or.inl ho)
    have K : pC h1 (xT x) (xS x) (n + 1) := ⟨⟨by rw [e80 79 (by omega)]; exact U.1, fun u ρ hu => by rw [e80 80 (by omega), e80 81 (by omega), e80 82 (by omega), e80 83 (by omega)]; exact U.2 u ρ hu⟩, ew, e86, e4, e5, by rw [hcc]; exact e6⟩
    have := m14_all G1 r3 O (by rw [hcc]; exact hc4) n (rp (xS x) (tR (xT x))) (n + 1) 0 [] (sP (xS x)) (sP (xS x)) (fun _ => 0) (fun _ => 0) 0 (sP (xS x)) (pLim (xS x) 0) (fun _ => 0) (0, 0, sP (xS x)) h1
    have := this (fun v g1 h1 => pv_E (d + 15) 12 P 192 [some (.ref 84), some (.ref rt), some (.ref 20), some (.ref 79), some (.int (nI (n + 1))), some (.int (nI (ls (fun ρ => wor (xT x) (xS x) ρ 0) (rp (xS x) (tR (xT x)))))), some (.int (nI c)), w7] (v.toList ++ []) 0 0 g1 h1) (d + 15 - (n * c + c) - 2) K ⟨by omega, he3, rfl, fun _ _ => ⟨rfl, rfl⟩, fun ρ hρ => ⟨Nat.le_refl _, (O.S.1 ρ (rp_mem.mp hρ).1).1, (O.S.1 ρ (rp_mem.mp hρ).1).1⟩, by simp, Nat.add_zero _, fun _ => rfl, fun _ _ => Nat.zero_le _, fun _ ρ _ => ⟨rfl, rfl⟩⟩ ⟨e87 0 (by omega), fun j a b => e87 j (by omega), fun f hf => hz 0 f (by omega) hf, fun j f _ b a => hz j f b a, by simp, fun z => absurd z (Nat.lt_irrefl 0)⟩ ⟨by rw [e0]; rfl, fun z => absurd z (Nat.lt_irrefl 0)⟩ ⟨Nat.zero_le _, Nat.zero_le _⟩ (by omega) (fun h' F B => by
        simp only [z12_192, pv_catN, pv_cat1, pv_cat2, pv_cat3, pv_catL, Option.toList, List.nil_append, List.cons_append, List.append_nil, pv_rfS, pn_i, pn_r, pn_n, pn_o, true_and, and_true, Nat.le_refl, and_self, true_implies, false_implies, not_true_eq_false, not_false_eq_true, pv_b0, pv_b01, pv_bn0, pv_b1, Bool.false_eq_true, Bool.true_eq_false, Bool.not_false, Bool.not_true, pv_bT, pv_bF, eq_self]
        refine hP g1 h' G1 FG1 (fun o ho => ?_) (fun j f hj hf => ?_) B
        · rw [F.1 o (by omega) (by omega) (by omega) (by omega) (by omega) (by omega) (by omega) (by omega), f1 o ho]
        · rw [F.2.2.2.1 j f hj hf]; exact hz j f hj hf)
    rw [hcc] at this
    have hnc : n * c ≤ 2 * 4 := Nat.mul_le_mul (by omega) hc4
    have ed : d + 15 - (n * c + c) - 2 + (n * c + c) + 2 = d + 15 := by omega
    have eH : pH (xT x) (xS x) 0 [] (rp (xS x) (tR (xT x))) (sP (xS x)) (fun _ => 0) = ls (fun ρ => wor (xT x) (xS x) ρ 0) (rp (xS x) (tR (xT x))) := by
      have : pH (xT x) (xS x) 0 [] (rp (xS x) (tR (xT x))) (sP (xS x)) (fun _ => 0) = ls (fun ρ => if sP (xS x) ρ < sH (xS x) + 0 then 0 else wor (xT x) (xS x) ρ 0) (rp (xS x) (tR (xT x))) := rfl
      rw [this]
      refine ls_congr (fun a ha => ?_)
      exact if_neg (O.al ha)
    have eZ : 0 * c + ([] : List Nat).length = 0 := by simp
    have eS : 0 + ls (tCost (xT x) (xS x) 0 (sP (xS x)) (sP (xS x))) [] = 0 := rfl
    rw [ed, eH, eZ, eS] at this
    simp only [z12_184, z12_185, z12_186, z12_188, pv_catN, pv_cat1, pv_cat2, pv_cat3, pv_catL, Option.toList, List.nil_append, List.cons_append, List.append_nil, pv_rfS, pn_i, pn_r, pn_n, pn_o, true_and, and_true, Nat.le_refl, and_self, true_implies, false_implies, not_true_eq_false, not_false_eq_true, pv_b0, pv_b01, pv_bn0, pv_b1, Bool.false_eq_true, Bool.true_eq_false, Bool.not_false, Bool.not_true, pv_bT, pv_bF, eq_self]
    rw [z12_189 (by simp [pv_cat, Value.category]) (by decide)]
    exact this
  -- the worths
  have worths : ∀ h0 : PvH, (∀ o, o < 84 ∨ 98 < o → h0 o = h o) → (∀ j f, j < 3 → f < 5 → h0 (89 + j) f = 0) → h0 84 0 = -1 → h0 84 4 = nI (tF (xT x)) → h0 84 5 = nI (sH (xS x)) → h0 84 6 = nI (e * c) → (∀ f, f < tF (xT x) → h0 86 f = nI (tB (xT x) f)) → (∀ j, j < e → h0 87 j = nI (pLim (xS x) j)) → pv_E (d + 15) 12 P 110 [some (.ref 84), some (.ref rt), some (.ref 20), some (.ref 79), some (.int (nI e)), some (.int (nI e)), none, none] [] 0 0 g1 h0 := by
    intro h0 f0 hz e0 e4 e5 e6 e86 e87
    have outer : ∀ n u (w7 : Option Value) (h1 : PvH), u + n = c → (∀ o, o < 93 ∨ 96 < o → h1 o = h0 o) → (∀ i ρ, i < u → (rp (xS x) (tR (xT x)))[i]? = some ρ → ∀ k, k ≤ 3 → h1 (93 + i) k = nI (wor (xT x) (xS x) ρ k)) → pv_E (d + 15) 12 P 116 [some (.ref 84), some (.ref rt), some (.ref 20), some (.ref 79), some (.int (nI e)), some (.int (nI (ls (fun ρ => wor (xT x) (xS x) ρ 0) ((rp (xS x) (tR (xT x))).take u)))), some (.int (nI u)), w7] [] 0 0 g1 h1 := by
      intro n
      induction n with
      | zero =>
        intro u w7 h1 hu f1 ew
        have hu : u = c := hu
        subst hu
        have e79 : h1 79 0 = nI u := by rw [f1 79 (by omega), f0 79 (by omega)]; exact U0
        rw [z12_116]
        simp only [z12_118, z12_119, z12_122, pv_catN, pv_cat1, pv_cat2, pv_cat3, pv_catL, Option.toList, List.nil_append, List.cons_append, List.append_nil, pv_rfS, pn_i, pn_r, pn_n, pn_o, true_and, and_true, Nat.le_refl, and_self, true_implies, false_implies, not_true_eq_false, not_false_eq_true, pv_b0, pv_b01, pv_bn0, pv_b1, Bool.false_eq_true, Bool.true_eq_false, Bool.not_false, Bool.not_true, pv_bT, pv_bF, eq_self, G1.o79, e79, nI_le' (show u < 2 ^ 31 by omega) (show u < 2 ^ 31 by omega)]
        have ht : (rp (xS x) (tR (xT x))).take u = rp (xS x) (tR (xT x)) := List.take_of_length_le (by omega)
        rw [ht]
        refine last h1 (fun o ho => by rw [f1 o (by omega), f0 o ho]) (fun j f hj hf => by rw [f1 _ (by omega)]; exact hz j f hj hf) (by rw [f1 84 (by omega)]; exact e0) (by rw [f1 84 (by omega)]; exact e4) (by rw [f1 84 (by omega)]; exact e5) (by rw [f1 84 (by omega)]; exact e6) (fun f hf => by rw [f1 86 (by omega)]; exact e86 f hf) (fun j hj => by rw [f1 87 (by omega)]; exact e87 j hj) (fun i ρ hi k hk => ew i ρ (by have := (List.getElem?_eq_some_iff.mp hi).1; omega) hi k hk) w7
      | succ n ih =>
        intro u w7 h1 hu f1 ew
        have huc : u < c := by omega
        obtain ⟨ρ, hρ⟩ : ∃ ρ, (rp (xS x) (tR (xT x)))[u]? = some ρ := ⟨_, List.getElem?_eq_getElem (by omega)⟩
        have e79 : ∀ h2 : PvH, (∀ o, o < 93 ∨ 96 < o → h2 o = h0 o) → h2 79 0 = nI c ∧ h2 80 u = nI (grp (xS x) ρ (tR (xT x))) ∧ cS h2 20 (tR (xT x)) (xS x) ∧ cT h2 rt (xT x) := fun h2 f2 => by
          have g : ∀ o, o < 84 → h2 o = h o := fun o ho => by rw [f2 o (by omega), f0 o (by omega)]
          exact ⟨by rw [g 79 (by omega)]; exact U0, by rw [g 80 (by omega)]; exact (U.2 u ρ hρ).1, C.S.fr (g _ (by omega)) (g _ (by omega)) (g _ (by omega)) (g _ (by omega)), C.T.fr (fun a h1 h2 => g a (by omega))⟩
        have vu := vp_nI (show u < 4 by omega) (show 4 < 2 ^ 31 by decide)
        have vu8 := vp_nI (show u < 8 by omega) (show 8 < 2 ^ 31 by decide)
        have cu := nI_clamp (show u < 2 ^ 31 by omega)
        have inner : ∀ m k (h2 : PvH), k + m = 4 → (∀ o, o < 93 ∨ 96 < o → h2 o = h0 o) → (∀ i, i < u → h2 (93 + i) = h1 (93 + i)) → (∀ j, j < k → h2 (93 + u) j = nI (wor (xT x) (xS x) ρ j)) → pv_E (d + 15) 12 P 128 [some (.ref 84), some (.ref rt), some (.ref 20), some (.ref 79), some (.int (nI e)), some (.int (nI (ls (fun ρ => wor (xT x) (xS x) ρ 0) ((rp (xS x) (tR (xT x))).take u)))), some (.int (nI u)), some (.int (nI k))] [] 0 0 g1 h2 := by
          intro m
          induction m with
          | zero =>
            intro k h2 hk f2 g2 w2
            have hk : k = 4 := hk
            subst hk
            have et : (rp (xS x) (tR (xT x))).take (u + 1) = (rp (xS x) (tR (xT x))).take u ++ [ρ] := by
              rw [List.take_add_one, hρ]
              rfl
            rw [z12_128]
            simp only [z12_130, z12_131, z12_164, z12_166, z12_167, z12_170, z12_172, z12_173, z12_174, z12_175, z12_176, z12_178, z12_181, pv_catN, pv_cat1, pv_cat2, pv_cat3, pv_catL, Option.toList, List.nil_append, List.cons_append, List.append_nil, pv_rfS, pn_i, pn_r, pn_n, pn_o, true_and, and_true, Nat.le_refl, and_self, true_implies, false_implies, not_true_eq_false, not_false_eq_true, pv_b0, pv_b01, pv_bn0, pv_b1, Bool.false_eq_true, Bool.true_eq_false, Bool.not_false, Bool.not_true, pv_bT, pv_bF, eq_self, show ((3 : Int32) < nI 4) = True from eq_true (by decide), G1.o84, G1.r84_10, G1.t92, r92 G1 (show u < 4 by omega), t93 G1 (show u < 4 by omega), vu, cu, vp_nI (show 0 < 4 by decide) (show 4 < 2 ^ 31 by decide), show vp_in 0 4 = True from vp_nI (n := 0) (by decide) (by decide), cl0, w2 0 (by decide), nI_add, true_or, or_true, nI_1]
            have := ih (u + 1) (some (.int (nI 4))) h2 (by omega) f2 (fun i ρ' hi hr k hk => by
              rcases Nat.lt_succ_iff_lt_or_eq.mp hi with z | z
              · rw [g2 i z]; exact ew i ρ' z hr k hk
              · subst z
                rw [hρ] at hr
                cases hr
                exact w2 k (by omega))
            rw [et, ls_app, ls_one] at this
            exact this
          | succ m ihm =>
            intro k h2 hk f2 g2 w2
            have hk3 : k ≤ 3 := by omega
            obtain ⟨a1, a2, a3, a4⟩ := e79 h2 f2
            have q5 : ((3 : Int32) < nI k) = False := eq_false (by rw [show (3 : Int32) = nI 3 from rfl, nI_lt' (by decide) (by omega)]; omega)
            rw [z12_128]
            simp only [z12_130, z12_131, z12_134, z12_135, z12_138, z12_140, z12_141, z12_143, z12_144, z12_145, z12_146, z12_149, z12_151, z12_152, pv_catN, pv_cat1, pv_cat2, pv_cat3, pv_catL, Option.toList, List.nil_append, List.cons_append, List.append_nil, pv_rfS, pn_i, pn_r, pn_n, pn_o, true_and, and_true, Nat.le_refl, and_self, true_implies, false_implies, not_true_eq_false, not_false_eq_true, pv_b0, pv_b01, pv_bn0, pv_b1, Bool.false_eq_true, Bool.true_eq_false, Bool.not_false, Bool.not_true, pv_bT, pv_bF, eq_self, q5, G1.o84, G1.o79, G1.r84_10, G1.t92, r92 G1 (show u < 4 by omega), vu, vu8, cu, G1.r79_1, G1.t80, a2, true_or, or_true]
            rw [z12_154 (by simp [pv_cat, Value.category]) (by decide)]
            refine m13 G1 a3 a4 O hk3 ?_
            simp only [z12_157, z12_158, z12_161, pv_catN, pv_cat1, pv_cat2, pv_cat3, pv_catL, Option.toList, List.nil_append, List.cons_append, List.append_nil, pv_rfS, pn_i, pn_r, pn_n, pn_o, true_and, and_true, Nat.le_refl, and_self, true_implies, false_implies, not_true_eq_false, not_false_eq_true, pv_b0, pv_b01, pv_bn0, pv_b1, Bool.false_eq_true, Bool.true_eq_false, Bool.not_false, Bool.not_true, pv_bT, pv_bF, eq_self, t93 G1 (show u < 4 by omega), vp_nI (show k < 4 by omega) (show 4 < 2 ^ 31 by decide), nI_clamp (show k < 2 ^ 31 by omega), nI_1]
            refine ihm (k + 1) _ (by omega) (fun o ho => by rw [st_o (by omega), f2 o ho]) (fun i hi => by rw [st_o (by omega), g2 i hi]) (fun j hj => ?_)
            by_cases z : j = k
            · rw [z, st_at]
            · rw [st_k z]; exact w2 j (by omega)
        rw [z12_116]
        simp only [z12_118, z12_119, z12_122, z12_125, z12_126, pv_catN, pv_cat1, pv_cat2, pv_cat3, pv_catL, Option.toList, List.nil_append, List.cons_append, List.append_nil, pv_rfS, pn_i, pn_r, pn_n, pn_o, true_and, and_true, Nat.le_refl, and_self, true_implies, false_implies, not_true_eq_false, not_false_eq_true, pv_b0, pv_b01, pv_bn0, pv_b1, Bool.false_eq_true, Bool.true_eq_false, Bool.not_false, Bool.not_true, pv_bT, pv_bF, eq_self, G1.o79, (e79 h1 f1).1, nI_le' (show c < 2 ^ 31 by omega) (show u < 2 ^ 31 by omega), show (c ≤ u) = False from eq_false (by omega)]
        exact inner 4 0 h1 rfl f1 (fun _ _ => rfl) (fun j hj => absurd hj (Nat.not_lt_zero j))
    simp only [z12_110, z12_111, z12_113, z12_114, pv_catN, pv_cat1, pv_cat2, pv_cat3, pv_catL, Option.toList, List.nil_append, List.cons_append, List.append_nil, pv_rfS, pn_i, pn_r, pn_n, pn_o, true_and, and_true, Nat.le_refl, and_self, true_implies, false_implies, not_true_eq_false, not_false_eq_true, pv_b0, pv_b01, pv_bn0, pv_b1, Bool.false_eq_true, Bool.true_eq_false, Bool.not_false, Bool.not_true, pv_bT, pv_bF, eq_self]
    exact outer c 0 none h0 (Nat.zero_add _) (fun _ _ => rfl) (fun i ρ hi => absurd hi (Nat.not_lt_zero i))
  -- what is left
  have lefts : ∀ n j (h1 : PvH), j + n = e → (∀ o, o < 84 ∨ 98 < o → h1 o = h o) → (∀ j f, j < 3 → f < 5 → h1 (89 + j) f = 0) → h1 84 0 = -1 → h1 84 4 = nI (tF (xT x)) → h1 84 5 = nI (sH (xS x)) → h1 84 6 = nI (e * c) → (∀ f, f < tF (xT x) → h1 86 f = nI (tB (xT x) f)) → (∀ i, i < j → h1 87 i = nI (pLim (xS x) i)) → pv_E (d + 15) 12 P 74 [some (.ref 84), some (.ref rt), some (.ref 20), some (.ref 79), some (.int (nI e)), some (.int (nI j)), none, none] [] 0 0 g1 h1 := by
    intro n
    induction n with
    | zero =>
      intro j h1 hj f1 hz e0 e4 e5 e6 e86 e87
      have hj : j = e := hj
      subst hj
      rw [z12_74]
      simp only [z12_76, z12_78, pv_catN, pv_cat1, pv_cat2, pv_cat3, pv_catL, Option.toList, List.nil_append, List.cons_append, List.append_nil, pv_rfS, pn_i, pn_r, pn_n, pn_o, true_and, and_true, Nat.le_refl, and_self, true_implies, false_implies, not_true_eq_false, not_false_eq_true, pv_b0, pv_b01, pv_bn0, pv_b1, Bool.false_eq_true, Bool.true_eq_false, Bool.not_false, Bool.not_true, pv_bT, pv_bF, eq_self, nI_le' (show j < 2 ^ 31 by omega) (show j < 2 ^ 31 by omega)]
      exact worths h1 f1 hz e0 e4 e5 e6 e86 e87
    | succ n ih =>
      intro j h1 hj f1 hz e0 e4 e5 e6 e86 e87
      have fin : ∀ v : Int32, v = nI (pLim (xS x) j) → pv_E (d + 15) 12 P 74 [some (.ref 84), some (.ref rt), some (.ref 20), some (.ref 79), some (.int (nI e)), some (.int (nI (j + 1))), none, none] [] 0 0 g1 (pv_st h1 87 j v) := fun v hv => by
        refine ih (j + 1) _ (by omega) (fun o ho => by rw [st_o (by omega), f1 o ho]) (fun j f hj hf => by rw [st_o (by omega)]; exact hz j f hj hf) (by rw [st_o (by omega)]; exact e0) (by rw [st_o (by omega)]; exact e4) (by rw [st_o (by omega)]; exact e5) (by rw [st_o (by omega)]; exact e6) (fun f hf => by rw [st_o (by omega)]; exact e86 f hf) (fun i hi => ?_)
        by_cases z : i = j
        · rw [z, st_at, hv]
        · rw [st_k z]; exact e87 i (by omega)
      have hj0 : (nI j = 0) = (j = 0) := nI_eq' (b := 0) (by omega) (by decide)
      have s6 : h1 20 6 = nI (sL (xS x)) := by rw [f1 20 (by omega)]; exact C.S.2.2.2.2.2.2
      have s5 : h1 20 5 = nI (sE (xS x)) := by rw [f1 20 (by omega)]; exact C.S.2.2.2.2.2.1
      rw [z12_74]
      simp only [z12_76, z12_78, z12_81, z12_82, z12_85, z12_87, z12_89, z12_92, z12_93, z12_96, z12_99, z12_100, z12_103, z12_104, z12_107, pv_catN, pv_cat1, pv_cat2, pv_cat3, pv_catL, Option.toList, List.nil_append, List.cons_append, List.append_nil, pv_rfS, pn_i, pn_r, pn_n, pn_o, true_and, and_true, Nat.le_refl, and_self, true_implies, false_implies, not_true_eq_false, not_false_eq_true, pv_b0, pv_b01, pv_bn0, pv_b1, Bool.false_eq_true, Bool.true_eq_false, Bool.not_false, Bool.not_true, pv_bT, pv_bF, eq_self, nI_le' (show e < 2 ^ 31 by omega) (show j < 2 ^ 31 by omega), show (e ≤ j) = False from eq_false (by omega), G1.o84, G1.S20.1, G1.r84_8, G1.t87, vp_nI (show j < 3 by omega) (show 3 < 2 ^ 31 by decide), nI_clamp (show j < 2 ^ 31 by omega), hj0, s5, s6, nI_1]
      refine ⟨fun z => fin _ ?_, fun z => fin _ ?_⟩
      · unfold pLim
        rw [if_neg z]
      · unfold pLim
        rw [if_pos (Classical.not_not.mp z)]
  refine lefts e 0 _ (Nat.zero_add _) (fun o ho => ?_) (fun j f hj hf => ?_) ?_ ?_ ?_ ?_ (fun f hf => ?_) (fun i hi => absurd hi (Nat.not_lt_zero i))
  · rw [cpy_ne (by omega), st_o (by omega), st_o (by omega), st_o (by omega), st_o (by omega), st_o (by omega)]
  · rw [cpy_ne (by omega), st_o (by omega), st_o (by omega), st_o (by omega), st_o (by omega), st_o (by omega)]
    exact C.zl j f hj hf
  · rw [cpy_ne (by omega), st_k (by omega), st_k (by omega), st_k (by omega), st_k (by omega), st_at]
  · rw [cpy_ne (by omega), st_k (by omega), st_k (by omega), st_at]
  · rw [cpy_ne (by omega), st_k (by omega), st_at]
  · rw [cpy_ne (by omega), st_at]
  · rw [cpy5 (by omega), st_o (by omega), st_o (by omega), st_o (by omega), st_o (by omega), st_o (by omega)]
    exact C.T.2.1 f hf
