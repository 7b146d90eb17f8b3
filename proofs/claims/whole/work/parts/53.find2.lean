/-! plans, the model: rows of floors -/
theorem m141_set {d : Nat} {Q : PvP} {g : PvG} {h : PvH} {x : SX} (G : gM g) (M : cD h x) (O : okX x) (hh : ∀ e, e < tR (xT x) → h 125 e = nI (hd (sK (xS x)) e)) {D k f : Nat} (hD : D < 4) (hk : k < tR (xT x)) (hkt : th (xS x) k = true) (hkh : hd (sK (xS x)) k = k) {ψ : Nat → Nat} {i5 : Int32} (S : mS h x D ψ) (hC : ∀ h' : PvH, (∀ o, o ≠ 120 → h' o = h o) → (∀ j, j < 8 * D → h' 120 j = h 120 j) → mS h' x D (updN ψ k f) → ∀ w6 : Option Value, pv_E d 141 Q 135 [some (.ref 102), some (.int (nI D)), some (.int (nI (8 * D))), some (.int (nI k)), some (.int (nI f)), some (.int i5), w6] [] 0 0 g h') : pv_E d 141 Q 86 [some (.ref 102), some (.int (nI D)), some (.int (nI (8 * D))), some (.int (nI k)), some (.int (nI f)), some (.int i5), some (.int (nI k))] [] 0 0 g h := by
  have hR := O.R
  have up : ∀ e, e < tR (xT x) → hd (sK (xS x)) e = k → rAt (xS x) (updN ψ k f) e = f := fun e he c => by
    have ht := th_hd O.S e he
    rw [c, hkt] at ht
    unfold rAt updN
    rw [if_pos ht.symm, if_pos c]
  have st : ∀ e, hd (sK (xS x)) e ≠ k → rAt (xS x) (updN ψ k f) e = rAt (xS x) ψ e := fun e c => by
    unfold rAt updN
    rw [if_neg c]
  have loop : ∀ n e (h1 : PvH), e + n = tR (xT x) → k ≤ e → (∀ o, o ≠ 120 → h1 o = h o) → (∀ j, j < 8 * D → h1 120 j = h 120 j) → (∀ j, j < tR (xT x) → h1 120 (8 * D + j) = nI (if j < e then rAt (xS x) (updN ψ k f) j else rAt (xS x) ψ j)) → pv_E d 141 Q 86 [some (.ref 102), some (.int (nI D)), some (.int (nI (8 * D))), some (.int (nI k)), some (.int (nI f)), some (.int i5), some (.int (nI e))] [] 0 0 g h1 := by
    intro n
    induction n with
    | zero =>
      intro e h1 he hke f1 f0 f2
      have he : e = tR (xT x) := he
      subst he
      have e6 : h1 102 6 = nI (tR (xT x)) := by rw [f1 102 (by omega)]; exact M.M.R
      rw [z141_86]
      simp only [z141_88, z141_89, z141_92, pv_catN, pv_cat1, pv_cat2, pv_cat3, pv_catL, Option.toList, List.nil_append, List.cons_append, List.append_nil, pv_rfS, pn_i, pn_r, pn_n, pn_o, true_and, and_true, Nat.le_refl, and_self, true_implies, false_implies, not_true_eq_false, not_false_eq_true, pv_b0, pv_b01, pv_bn0, pv_b1, Bool.false_eq_true, Bool.true_eq_false, Bool.not_false, Bool.not_true, pv_bT, pv_bF, eq_self, G.o, e6, nI_le' (show tR (xT x) < 2 ^ 31 by omega) (show tR (xT x) < 2 ^ 31 by omega)]
      exact hC h1 f1 f0 (fun j hj => by rw [f2 j hj, if_pos hj]) _
    | succ n ih =>
      intro e h1 he hke f1 f0 f2
      have heR : e < tR (xT x) := by omega
      have e6 : h1 102 6 = nI (tR (xT x)) := by rw [f1 102 (by omega)]; exact M.M.R
      have e125 : h1 125 e = nI (hd (sK (xS x)) e) := by rw [f1 125 (by omega)]; exact hh e heR
      have hle := hd_le (sK (xS x)) e
      have fin : ∀ v : Int32, v = nI (rAt (xS x) (updN ψ k f) e) → pv_E d 141 Q 86 [some (.ref 102), some (.int (nI D)), some (.int (nI (8 * D))), some (.int (nI k)), some (.int (nI f)), some (.int i5), some (.int (nI (e + 1)))] [] 0 0 g (pv_st h1 120 (8 * D + e) v) := fun v hv => by
        refine ih (e + 1) _ (by omega) (by omega) (fun o a => by rw [st_o a, f1 o a]) (fun j hj => by rw [st_k (by omega), f0 j hj]) (fun j hj => ?_)
        by_cases z : j = e
        · subst z; rw [st_at, hv, if_pos (show j < j + 1 by omega)]
        · rw [st_k (by omega), f2 j hj]
          by_cases y : j < e
          · rw [if_pos y, if_pos (show j < e + 1 by omega)]
          · rw [if_neg y, if_neg (show ¬ j < e + 1 by omega)]
      rw [z141_86]
      simp only [z141_0, z141_2, z141_3, z141_4, z141_5, z141_6, z141_9, z141_10, z141_11, z141_12, z141_13, z141_16, z141_17, z141_20, z141_21, z141_22, z141_23, z141_24, z141_27, z141_28, z141_31, z141_32, z141_33, z141_34, z141_37, z141_38, z141_41, z141_42, z141_43, z141_44, z141_45, z141_46, z141_47, z141_49, z141_51, z141_52, z141_55, z141_58, z141_59, z141_62, z141_63, z141_65, z141_67, z141_70, z141_72, z141_75, z141_76, z141_77, z141_78, z141_81, z141_83, z141_84, z141_88, z141_89, z141_92, z141_95, z141_96, z141_99, z141_100, z141_102, z141_103, z141_104, z141_107, z141_109, z141_110, z141_111, z141_114, z141_116, z141_119, z141_120, z141_123, z141_124, z141_126, z141_127, z141_128, z141_129, z141_132, z141_135, z141_137, z141_140, z141_141, z141_142, z141_145, z141_148, z141_149, pv_catN, pv_cat1, pv_cat2, pv_cat3, pv_catL, Option.toList, List.nil_append, List.cons_append, List.append_nil, pv_rfS, pn_i, pn_r, pn_n, pn_o, true_and, and_true, Nat.le_refl, and_self, true_implies, false_implies, not_true_eq_false, not_false_eq_true, pv_b0, pv_b01, pv_bn0, pv_b1, Bool.false_eq_true, Bool.true_eq_false, Bool.not_false, Bool.not_true, pv_bT, pv_bF, eq_self, G.o, e6, nI_le' (show tR (xT x) < 2 ^ 31 by omega) (show e < 2 ^ 31 by omega), show (tR (xT x) ≤ e) = False from eq_false (by omega), G.r28, G.t120, G.r35, G.t125, e8N, vp_nI (show e < 8 by omega) (show 8 < 2 ^ 31 by decide), vp_nI (show 8 * D + e < 32 by omega) (show 32 < 2 ^ 31 by decide), nI_clamp (show e < 2 ^ 31 by omega), nI_clamp (show 8 * D + e < 2 ^ 31 by omega), e125, nI_eq' (show hd (sK (xS x)) e < 2 ^ 31 by omega) (show k < 2 ^ 31 by omega), nI_1]
      refine ⟨fun c => ?_, fun c => ?_⟩
      · refine fin _ ?_
        rw [f2 e heR, if_neg (show ¬ e < e by omega), st e c]
      · refine fin _ ?_
        rw [up e heR (Classical.not_not.mp c)]
  refine loop (tR (xT x) - k) k h (by omega) (Nat.le_refl _) (fun _ _ => rfl) (fun _ _ => rfl) (fun j hj => ?_)
  rw [S j hj]
  by_cases y : j < k
  · rw [if_pos y, st j (by have := hd_le (sK (xS x)) j; omega)]
  · rw [if_neg y]
theorem mB.fr {h h' : PvH} {x : SX} {b : PB} (B : mB h x b) (h1 : h' 102 = h 102) (h2 : h' 124 = h 124) : mB h' x b := by
  unfold mB at B ⊢
  rw [h1, h2]
  exact B
def mDl (x : SX) (D k : Nat) (φ ψ δ δ' : Nat → Nat) : Prop := (∀ ρ, ρ < tR (xT x) → ψ ρ < tF (xT x) ∧ φ ρ ≤ ψ ρ ∧ (φ ρ < sH (xS x) + D → ψ ρ = φ ρ)) ∧ (∀ ρ, k ≤ ρ → ψ ρ = φ ρ ∧ δ' ρ = δ ρ) ∧ ∀ ρ, ρ < k → th (xS x) ρ = true → hd (sK (xS x)) ρ = ρ → δ' ρ = if φ ρ < sH (xS x) + D then δ ρ else dUp (sH (xS x) + D) (ψ ρ) (δ ρ)
set_option maxHeartbeats 4000000 in
theorem mL {g : PvG} {x : SX} {P : PvP} {d0 d n : Nat} (G : gM g) (O : okX x) (hd3 : d ≤ 3) (ih : ∀ m, n = m + 1 → SEN g x P d0 d m) {D : Nat} {φ δ : Nat → Nat} {sp : Nat} {row : Nat → Nat} (hDn : D + n + 1 = d) (hs : sp + 99 * (n + 1) ≤ 400) (hφ : ∀ ρ, ρ < tR (xT x) → φ ρ < tF (xT x)) : ∀ m k (ψ δ' : Nat → Nat) (b : PB) (h : PvH), k + m = tR (xT x) → ENf h x D φ δ sp row → mS h x D ψ → mB h x b → pBk b → mDl x D k φ ψ δ δ' → (∀ (h' : PvH) (w4 w5 w6 v4 v5 v6 : Option Value), MF h h' D → mS h' x D ψ → mB h' x (enF (xT x) (xS x) D (pLf (xT x) (xS x) n D φ sp row) (rk (xS x) m k) ψ δ' b) → pv_E (d0 + 2) 141 (Q145 (d0 + 3) P d D w4 w5 w6) 12 [some (.ref 102), some (.int (nI D)), some (.int (nI (8 * D))), some (.int (nI k - 1)), v4, v5, v6] [] 0 0 g h') → ∀ w5 w6 : Option Value, pv_E (d0 + 3) 145 P 68 [some (.ref 102), some (.int (nI d)), some (.int (nI D)), some (.int 0), some (.int 1), w5, w6] [] 0 0 g h := by
  have hR := O.R
  have hF := O.F
  have hH := O.S.2.2.1
  have lD0 : (nI D < 0) = False := eq_false (by rw [show (0 : Int32) = nI 0 from rfl, nI_lt' (by omega) (by decide)]; omega)
  intro m
  induction m with
  | zero =>
    intro k ψ δ' b h hk E S B hb L hC
    have hk : k = tR (xT x) := hk
    subst hk
    refine mPROC G O hd3 ih hDn E S B hb hs hφ L.1 (fun ρ h1 h2 h3 => L.2.2 ρ h1 h2 h3) (fun h' w4 w5 w6 F' S' B' => ?_)
    have N := (E.fr hR F').1
    simp only [z145_32, z145_33, z145_36, z145_37, z145_40, z145_41, pv_catN, pv_cat1, pv_cat2, pv_cat3, pv_catL, Option.toList, List.nil_append, List.cons_append, List.append_nil, pv_rfS, pn_i, pn_r, pn_n, pn_o, true_and, and_true, Nat.le_refl, and_self, true_implies, false_implies, not_true_eq_false, not_false_eq_true, pv_b0, pv_b01, pv_bn0, pv_b1, Bool.false_eq_true, Bool.true_eq_false, Bool.not_false, Bool.not_true, pv_bT, pv_bF, eq_self, lD0]
    rw [z145_42 (by simp [pv_cat, Value.category]) (by decide)]
    refine ⟨G.o, ?_⟩
    show pv_run (d0 + 3) 141 [.ref 102, .int (nI D)] g h' (Q145 (d0 + 3) P d D w4 w5 w6)
    simp only [e141, z141_0, z141_2, z141_3, z141_4, z141_5, z141_6, z141_9, z141_10, z141_11, pv_catN, pv_cat1, pv_cat2, pv_cat3, pv_catL, Option.toList, List.nil_append, List.cons_append, List.append_nil, pv_rfS, pn_i, pn_r, pn_n, pn_o, true_and, and_true, Nat.le_refl, and_self, true_implies, false_implies, not_true_eq_false, not_false_eq_true, pv_b0, pv_b01, pv_bn0, pv_b1, Bool.false_eq_true, Bool.true_eq_false, Bool.not_false, Bool.not_true, pv_bT, pv_bF, eq_self, G.o, N.M.R, c8N]
    exact hC h' _ _ _ _ _ _ F' S' B'
  | succ m ihm =>
    intro k ψ δ' b h hk E S B hb L hC
    have hkR : k < tR (xT x) := by omega
    have ek : nI (k + 1) - 1 = nI k := nI_pred k
    have hle := hd_le (sK (xS x)) k
    have hrk : rk (xS x) (m + 1) k = if (th (xS x) k && decide (hd (sK (xS x)) k = k)) = true then k :: rk (xS x) m (k + 1) else rk (xS x) m (k + 1) := rfl
    have l0 : (nI k < 0) = False := eq_false (by rw [show (0 : Int32) = nI 0 from rfl, nI_lt' (by omega) (by decide)]; omega)
    obtain ⟨L1, L2, L3⟩ := L
    have hLk := L2 k (Nat.le_refl k)
    -- a row that is passed over
    have pass : (enF (xT x) (xS x) D (pLf (xT x) (xS x) n D φ sp row) (rk (xS x) (m + 1) k) ψ δ' b = enF (xT x) (xS x) D (pLf (xT x) (xS x) n D φ sp row) (rk (xS x) m (k + 1)) ψ δ' b) → (¬ (th (xS x) k = true ∧ hd (sK (xS x)) k = k ∧ ¬ φ k < sH (xS x) + D)) → ∀ w5 w6 : Option Value, pv_E (d0 + 3) 145 P 68 [some (.ref 102), some (.int (nI d)), some (.int (nI D)), some (.int 0), some (.int 1), w5, w6] [] 0 0 g h := by
      intro hv hno
      refine ihm (k + 1) ψ δ' b h (by omega) E S B hb ⟨L1, fun ρ hρ => L2 ρ (by omega), fun ρ hρ ht hh => ?_⟩ (fun h' w4 w5 w6 v4 v5 v6 F' S' B' => ?_)
      · rcases Nat.lt_succ_iff_lt_or_eq.mp hρ with z | z
        · exact L3 ρ z ht hh
        · subst z
          rw [if_pos (Classical.byContradiction fun y => hno ⟨ht, hh, y⟩)]
          exact hLk.2
      · rw [hv] at hC
        have E' := E.fr hR F'
        have N := E'.1
        rw [ek, z141_12]
        simp only [z141_13, z141_16, z141_17, z141_20, z141_21, z141_22, z141_23, z141_24, z141_27, z141_28, z141_31, z141_32, z141_33, z141_34, z141_142, z141_145, pv_catN, pv_cat1, pv_cat2, pv_cat3, pv_catL, Option.toList, List.nil_append, List.cons_append, List.append_nil, pv_rfS, pn_i, pn_r, pn_n, pn_o, true_and, and_true, Nat.le_refl, and_self, true_implies, false_implies, not_true_eq_false, not_false_eq_true, pv_b0, pv_b01, pv_bn0, pv_b1, Bool.false_eq_true, Bool.true_eq_false, Bool.not_false, Bool.not_true, pv_bT, pv_bF, eq_self, l0, G.o, G.r30, G.t122, G.r35, G.t125, e8N, vp_nI (show 8 * D + k < 32 by omega) (show 32 < 2 ^ 31 by decide), nI_clamp (show 8 * D + k < 2 ^ 31 by omega), vp_nI (show k < 8 by omega) (show 8 < 2 ^ 31 by decide), nI_clamp (show k < 2 ^ 31 by omega), E'.2.2.1 k hkR, E'.2.1 k hkR, nI_eq' (show hd (sK (xS x)) k < 2 ^ 31 by omega) (show k < 2 ^ 31 by omega), pm1]
        refine ⟨fun _ => hC h' _ _ _ _ _ _ F' S' B', fun c => ⟨fun _ => hC h' _ _ _ _ _ _ F' S' B', fun c2 => ?_⟩⟩
        exfalso
        have c := Bool.or_eq_false_iff.mp (Classical.not_not.mp c)
        have c2 := Classical.not_not.mp c2
        refine hno ⟨by simpa using c.1, c2, ?_⟩
        have := of_decide_eq_false c.2
        rw [c2] at this
        exact this
    cases hb2 : (th (xS x) k && decide (hd (sK (xS x)) k = k)) with
    | false =>
      refine pass (by rw [hrk, hb2, if_neg Bool.false_ne_true]) (fun z => ?_)
      rw [z.1, decide_eq_true z.2.1] at hb2
      exact absurd hb2 (by decide)
    | true =>
      have hb3 := Bool.and_eq_true_iff.mp hb2
      have ht := hb3.1
      have hhd := of_decide_eq_true hb3.2
      rw [hrk, hb2, if_pos rfl] at hC pass
      have hen : enF (xT x) (xS x) D (pLf (xT x) (xS x) n D φ sp row) (k :: rk (xS x) m (k + 1)) ψ δ' b = if ψ k < sH (xS x) + D then enF (xT x) (xS x) D (pLf (xT x) (xS x) n D φ sp row) (rk (xS x) m (k + 1)) ψ δ' b else fob (fun u b => enF (xT x) (xS x) D (pLf (xT x) (xS x) n D φ sp row) (rk (xS x) m (k + 1)) (updN ψ k u) (updN δ' k (dUp (sH (xS x) + D) u (δ' k))) b) (tF (xT x) - ψ k) (ψ k) b := rfl
      by_cases hde : φ k < sH (xS x) + D
      · exact pass (by rw [hen, if_pos (by rw [hLk.1]; exact hde)]) (fun z => z.2.2 hde)
      · have hde2 : ¬ ψ k < sH (xS x) + D := by rw [hLk.1]; exact hde
        rw [hen, if_neg hde2] at hC
        have J : ∀ mm t b1 (h1 : PvH), t + mm + 1 = tF (xT x) → φ k ≤ t → pBk b1 → MF h h1 D → mS h1 x D (updN ψ k t) → mB h1 x b1 → (∀ (h' : PvH) (w4 w5 w6 v4 v5 v6 : Option Value), MF h h' D → mS h' x D ψ → mB h' x (fob (fun u b => enF (xT x) (xS x) D (pLf (xT x) (xS x) n D φ sp row) (rk (xS x) m (k + 1)) (updN ψ k u) (updN δ' k (dUp (sH (xS x) + D) u (δ' k))) b) (mm + 1) t b1) → pv_E (d0 + 2) 141 (Q145 (d0 + 3) P d D w4 w5 w6) 12 [some (.ref 102), some (.int (nI D)), some (.int (nI (8 * D))), some (.int (nI k - 1)), v4, v5, v6] [] 0 0 g h') → ∀ w5 w6 : Option Value, pv_E (d0 + 3) 145 P 68 [some (.ref 102), some (.int (nI d)), some (.int (nI D)), some (.int 0), some (.int 1), w5, w6] [] 0 0 g h1 := by
          intro mm
          induction mm with
          | zero =>
            intro t b1 h1 hm hw hbb F1 S1 B1 hCJ
            refine ihm (k + 1) (updN ψ k t) (updN δ' k (dUp (sH (xS x) + D) t (δ' k))) b1 h1 (by omega) (E.fr hR F1) S1 B1 hbb ⟨fun ρ hρ => ?_, fun ρ hρ => ?_, fun ρ hρ ht' hh' => ?_⟩ (fun h' w4 w5 w6 v4 v5 v6 F' S' B' => ?_)
            · unfold updN
              by_cases z : ρ = k
              · rw [if_pos z, z]; exact ⟨by omega, hw, fun y => absurd y hde⟩
              · rw [if_neg z]; exact L1 ρ hρ
            · unfold updN
              rw [if_neg (by omega), if_neg (by omega)]
              exact L2 ρ (by omega)
            · unfold updN
              by_cases z : ρ = k
              · rw [if_pos z, if_pos z, z, if_neg hde, hLk.2]
              · rw [if_neg z, if_neg z]
                exact L3 ρ (by omega) ht' hh'
            · have FF := F1.tr F' (Nat.le_refl D)
              have E' := E.fr hR FF
              have N := E'.1
              have eG : h' 122 (8 * D + k) = pv_b false := by
                rw [E'.2.2.1 k hkR, ht, hhd, decide_eq_false hde]
                rfl
              have eS : h' 120 (8 * D + k) = nI t := by
                rw [S' k hkR]
                unfold rAt updN
                rw [if_pos ht, hhd, if_pos rfl]
              have e125 : h' 125 k = nI k := by rw [E'.2.1 k hkR, hhd]
              have eR : rAt (xS x) φ k = φ k := by
                unfold rAt
                rw [if_pos ht, hhd]
              rw [ek, z141_12]
              simp only [z141_13, z141_16, z141_17, z141_20, z141_21, z141_22, z141_23, z141_24, z141_27, z141_28, z141_31, z141_32, z141_33, z141_34, z141_37, z141_38, z141_41, z141_42, z141_43, z141_44, z141_45, z141_46, z141_47, z141_49, z141_51, z141_52, z141_55, z141_58, z141_59, z141_62, z141_63, z141_65, z141_67, z141_70, z141_72, z141_75, z141_76, z141_77, z141_78, z141_81, z141_83, z141_84, pv_catN, pv_cat1, pv_cat2, pv_cat3, pv_catL, Option.toList, List.nil_append, List.cons_append, List.append_nil, pv_rfS, pn_i, pn_r, pn_n, pn_o, true_and, and_true, Nat.le_refl, and_self, true_implies, false_implies, not_true_eq_false, not_false_eq_true, pv_b0, pv_b01, pv_bn0, pv_b1, Bool.false_eq_true, Bool.true_eq_false, Bool.not_false, Bool.not_true, pv_bT, pv_bF, eq_self, l0, G.o, G.r30, G.t122, G.r35, G.t125, G.r28, G.t120, e8N, vp_nI (show 8 * D + k < 32 by omega) (show 32 < 2 ^ 31 by decide), nI_clamp (show 8 * D + k < 2 ^ 31 by omega), vp_nI (show k < 8 by omega) (show 8 < 2 ^ 31 by decide), nI_clamp (show k < 2 ^ 31 by omega), eG, eS, e125, nI_1, N.M.F, nI_le' (show tF (xT x) < 2 ^ 31 by omega) (show t + 1 < 2 ^ 31 by omega), show (tF (xT x) ≤ t + 1) = True from eq_true (by omega), m140 G N O (show D < 4 by omega) hkR E'.2.2.2.2.2.1, eR]
              refine m141_set (f := φ k) G N O E'.2.1 (by omega) hkR ht hhd S' (fun h'' f1 f2 S'' w6' => ?_)
              have F'' : MF h' h'' D := ⟨fun o _ a _ _ _ _ _ => f1 o a, fun j _ _ => by rw [f1 102 (by omega)], f2, fun j _ => ⟨by rw [f1 121 (by omega)], by rw [f1 122 (by omega)]⟩, fun j _ => by rw [f1 123 (by omega)]⟩
              simp only [z141_135, z141_137, z141_142, z141_145, pv_catN, pv_cat1, pv_cat2, pv_cat3, pv_catL, Option.toList, List.nil_append, List.cons_append, List.append_nil, pv_rfS, pn_i, pn_r, pn_n, pn_o, true_and, and_true, Nat.le_refl, and_self, true_implies, false_implies, not_true_eq_false, not_false_eq_true, pv_b0, pv_b01, pv_bn0, pv_b1, Bool.false_eq_true, Bool.true_eq_false, Bool.not_false, Bool.not_true, pv_bT, pv_bF, eq_self, pm1]
              rw [updN_2, updN_id hLk.1] at S''
              exact hCJ h'' _ _ _ _ _ _ (FF.tr F'' (Nat.le_refl D)) S'' (B'.fr (f1 102 (by omega)) (f1 124 (by omega)))
          | succ mm ihmm =>
            intro t b1 h1 hm hw hbb F1 S1 B1 hCJ
            refine ihm (k + 1) (updN ψ k t) (updN δ' k (dUp (sH (xS x) + D) t (δ' k))) b1 h1 (by omega) (E.fr hR F1) S1 B1 hbb ⟨fun ρ hρ => ?_, fun ρ hρ => ?_, fun ρ hρ ht' hh' => ?_⟩ (fun h' w4 w5 w6 v4 v5 v6 F' S' B' => ?_)
            · unfold updN
              by_cases z : ρ = k
              · rw [if_pos z, z]; exact ⟨by omega, hw, fun y => absurd y hde⟩
              · rw [if_neg z]; exact L1 ρ hρ
            · unfold updN
              rw [if_neg (by omega), if_neg (by omega)]
              exact L2 ρ (by omega)
            · unfold updN
              by_cases z : ρ = k
              · rw [if_pos z, if_pos z, z, if_neg hde, hLk.2]
              · rw [if_neg z, if_neg z]
                exact L3 ρ (by omega) ht' hh'
            · have FF := F1.tr F' (Nat.le_refl D)
              have E' := E.fr hR FF
              have N := E'.1
              have eG : h' 122 (8 * D + k) = pv_b false := by
                rw [E'.2.2.1 k hkR, ht, hhd, decide_eq_false hde]
                rfl
              have eS : h' 120 (8 * D + k) = nI t := by
                rw [S' k hkR]
                unfold rAt updN
                rw [if_pos ht, hhd, if_pos rfl]
              have e125 : h' 125 k = nI k := by rw [E'.2.1 k hkR, hhd]
              rw [ek, z141_12]
              simp only [z141_13, z141_16, z141_17, z141_20, z141_21, z141_22, z141_23, z141_24, z141_27, z141_28, z141_31, z141_32, z141_33, z141_34, z141_37, z141_38, z141_41, z141_42, z141_43, z141_44, z141_45, z141_46, z141_47, z141_49, z141_51, z141_52, z141_55, z141_58, z141_59, z141_62, z141_63, z141_65, z141_67, z141_70, z141_72, z141_81, z141_83, z141_84, pv_catN, pv_cat1, pv_cat2, pv_cat3, pv_catL, Option.toList, List.nil_append, List.cons_append, List.append_nil, pv_rfS, pn_i, pn_r, pn_n, pn_o, true_and, and_true, Nat.le_refl, and_self, true_implies, false_implies, not_true_eq_false, not_false_eq_true, pv_b0, pv_b01, pv_bn0, pv_b1, Bool.false_eq_true, Bool.true_eq_false, Bool.not_false, Bool.not_true, pv_bT, pv_bF, eq_self, l0, G.o, G.r30, G.t122, G.r35, G.t125, G.r28, G.t120, e8N, vp_nI (show 8 * D + k < 32 by omega) (show 32 < 2 ^ 31 by decide), nI_clamp (show 8 * D + k < 2 ^ 31 by omega), vp_nI (show k < 8 by omega) (show 8 < 2 ^ 31 by decide), nI_clamp (show k < 2 ^ 31 by omega), eG, eS, e125, nI_1, N.M.F, nI_le' (show tF (xT x) < 2 ^ 31 by omega) (show t + 1 < 2 ^ 31 by omega), show (tF (xT x) ≤ t + 1) = False from eq_false (by omega), i10]
              refine m141_set (f := t + 1) G N O E'.2.1 (by omega) hkR ht hhd S' (fun h'' f1 f2 S'' w6' => ?_)
              have F'' : MF h' h'' D := ⟨fun o _ a _ _ _ _ _ => f1 o a, fun j _ _ => by rw [f1 102 (by omega)], f2, fun j _ => ⟨by rw [f1 121 (by omega)], by rw [f1 122 (by omega)]⟩, fun j _ => by rw [f1 123 (by omega)]⟩
              simp only [z141_135, z141_137, z141_140, z141_141, pv_catN, pv_cat1, pv_cat2, pv_cat3, pv_catL, Option.toList, List.nil_append, List.cons_append, List.append_nil, pv_rfS, pn_i, pn_r, pn_n, pn_o, true_and, and_true, Nat.le_refl, and_self, true_implies, false_implies, not_true_eq_false, not_false_eq_true, pv_b0, pv_b01, pv_bn0, pv_b1, Bool.false_eq_true, Bool.true_eq_false, Bool.not_false, Bool.not_true, pv_bT, pv_bF, eq_self, i10]
              rw [updN_2] at S''
              refine ⟨Or.inr trivial, ?_⟩
              show pv_E (d0 + 3) 145 P 45 _ _ 0 0 g h''
              simp only [z145_45, z145_48, z145_49, z145_53, z145_55, z145_56, z145_57, z145_59, pv_catN, pv_cat1, pv_cat2, pv_cat3, pv_catL, Option.toList, List.nil_append, List.cons_append, List.append_nil, pv_rfS, pn_i, pn_r, pn_n, pn_o, true_and, and_true, Nat.le_refl, and_self, true_implies, false_implies, not_true_eq_false, not_false_eq_true, pv_b0, pv_b01, pv_bn0, pv_b1, Bool.false_eq_true, Bool.true_eq_false, Bool.not_false, Bool.not_true, pv_bT, pv_bF, eq_self, i10]
              exact ihmm (t + 1) _ h'' (by omega) (by omega) (enF_bk O.T O.S hs _ _ _ hbb) (FF.tr F'' (Nat.le_refl D)) S'' (B'.fr (f1 102 (by omega)) (f1 124 (by omega))) hCJ _ _
        have hFk := hφ k hkR
        refine J (tF (xT x) - ψ k - 1) (ψ k) b h (by rw [hLk.1]; omega) (by rw [hLk.1]; exact Nat.le_refl _) hb MF.rf (by rw [updN_self]; exact S) B (fun h' w4 w5 w6 v4 v5 v6 F' S' B' => ?_)
        rw [show tF (xT x) - ψ k - 1 + 1 = tF (xT x) - ψ k by rw [hLk.1]; omega] at B'
        exact hC h' w4 w5 w6 v4 v5 v6 F' S' B'
