/-! plans, the model: more pieces -/
theorem m142 {d : Nat} {P : PvP} {g : PvG} {h : PvH} {x : SX} (G : gM g) (M : cD h x) (O : okX x) {D : Nat} {φ : Nat → Nat} (hD : D < 4) (F : mF h x D φ) (hφ : D = 0 → φ = sP (xS x)) (hP : ∀ h' : PvH, (∀ o, o ≠ 120 → o ≠ 121 → o ≠ 122 → h' o = h o) → (∀ k, k < 8 * D → h' 120 k = h 120 k) → (D ≠ 0 → h' 121 = h 121 ∧ h' 122 = h 122) → mS h' x D φ → (D = 0 → mG h' x 0 φ ∧ mV h' x 0 (fun _ => 0)) → P none g h') : pv_run (d + 2) 142 [.ref 102, .int (nI D)] g h P := by
  have hR := O.R
  have loop : ∀ n r (h1 : PvH), r + n = tR (xT x) → (∀ o, o ≠ 120 → o ≠ 121 → o ≠ 122 → h1 o = h o) → (∀ k, k < 8 * D → h1 120 k = h 120 k) → (D ≠ 0 → h1 121 = h 121 ∧ h1 122 = h 122) → (∀ e, e < r → h1 120 (8 * D + e) = nI (rAt (xS x) φ e)) → (D = 0 → ∀ e, e < r → h1 122 e = pv_b ((sD (xS x)).testBit e) ∧ h1 121 e = nI (sV (xS x) e)) → pv_E (d + 1) 142 P 2 [some (.ref 102), some (.int (nI D)), some (.int (nI r))] [] 0 0 g h1 := by
    intro n
    induction n with
    | zero =>
      intro r h1 hr f1 f2 f3 s1 s2
      have hr : r = tR (xT x) := hr
      subst hr
      have e6 : h1 102 6 = nI (tR (xT x)) := by rw [f1 102 (by omega) (by omega) (by omega)]; exact M.M.R
      rw [z142_2]
      simp only [z142_3, z142_4, z142_7, z142_61, pv_catN, pv_cat1, pv_cat2, pv_cat3, pv_catL, Option.toList, List.nil_append, List.cons_append, List.append_nil, pv_rfS, pn_i, pn_r, pn_n, pn_o, true_and, and_true, Nat.le_refl, and_self, true_implies, false_implies, not_true_eq_false, not_false_eq_true, pv_b0, pv_b01, pv_bn0, pv_b1, Bool.false_eq_true, Bool.true_eq_false, Bool.not_false, Bool.not_true, pv_bT, pv_bF, eq_self, G.o, e6, nI_le' (show tR (xT x) < 2 ^ 31 by omega) (show tR (xT x) < 2 ^ 31 by omega)]
      refine hP h1 f1 f2 f3 s1 (fun z => ⟨fun e he => ?_, fun e he ht => ?_⟩)
      · rw [hφ z, show 8 * 0 + e = e by omega, (s2 z e he).1, sP_hd O.S e he]
        congr 1
        cases ht : th (xS x) e with
        | false =>
          unfold th at ht
          have ht : (sD (xS x)).testBit e = true := by simpa using ht
          rw [ht]
          rfl
        | true =>
          have hw := O.hw e he ht
          unfold th at ht
          have ht : (sD (xS x)).testBit e = false := by simpa using ht
          rw [ht, decide_eq_false (by omega)]
          rfl
      · rw [show 8 * 0 + e = e by omega, (s2 z e he).2]
        congr 1
        show sV (xS x) e = sV (xS x) e - (if sK (xS x) e = 1 then 0 else 0)
        split <;> omega
    | succ n ih =>
      intro r h1 hr f1 f2 f3 s1 s2
      have hrR : r < tR (xT x) := by omega
      have N : cD h1 x := M.fr (fun o a b => f1 o (by omega) (by omega) (by omega)) (fun k _ => by rw [f1 102 (by omega) (by omega) (by omega)])
      have F1 : mF h1 x D φ := ⟨F.1, fun z e he => by rw [f2 _ (by omega)]; exact F.2 z e he⟩
      have e0 : (nI D = 0) = (D = 0) := nI_eq' (b := 0) (by omega) (by decide)
      have v32 := vp_nI (show 8 * D + r < 32 by omega) (show 32 < 2 ^ 31 by decide)
      have c32 := nI_clamp (show 8 * D + r < 2 ^ 31 by omega)
      have n1 : ∀ v : Int32, pv_st h1 120 (8 * D + r) v 110 = h1 110 := fun v => st_o (by omega)
      have n2 : ∀ (v w : Int32) k, pv_st (pv_st h1 120 (8 * D + r) v) 122 k w 106 = h1 106 := fun v w k => by rw [st_o (by omega), st_o (by omega)]
      rw [z142_2]
      simp only [z142_0, z142_1, z142_3, z142_4, z142_7, z142_10, z142_11, z142_14, z142_16, z142_17, z142_18, z142_19, z142_20, z142_21, z142_22, z142_23, z142_26, z142_27, z142_28, z142_31, z142_32, z142_35, z142_36, z142_37, z142_40, z142_41, z142_42, z142_43, z142_44, z142_47, z142_48, z142_49, z142_52, z142_53, z142_54, z142_55, z142_58, z142_61, pv_catN, pv_cat1, pv_cat2, pv_cat3, pv_catL, Option.toList, List.nil_append, List.cons_append, List.append_nil, pv_rfS, pn_i, pn_r, pn_n, pn_o, true_and, and_true, Nat.le_refl, and_self, true_implies, false_implies, not_true_eq_false, not_false_eq_true, pv_b0, pv_b01, pv_bn0, pv_b1, Bool.false_eq_true, Bool.true_eq_false, Bool.not_false, Bool.not_true, pv_bT, pv_bF, eq_self, G.o, N.M.R, nI_le' (show tR (xT x) < 2 ^ 31 by omega) (show r < 2 ^ 31 by omega), show (tR (xT x) ≤ r) = False from eq_false (by omega), G.r28, G.t120, c8N, e8N, m140 G N O hD hrR F1, v32, c32, e0, G.r30, G.t122, G.r12, G.t110, G.r29, G.t121, G.r8, G.t106, vp_nI (show r < 8 by omega) (show 8 < 2 ^ 31 by decide), vp_nI (show r < 32 by omega) (show 32 < 2 ^ 31 by decide), nI_clamp (show r < 2 ^ 31 by omega), n1, n2, N.M.D r hrR, N.M.V r hrR, nI_1]
      have s1' : ∀ e, e < r + 1 → pv_st h1 120 (8 * D + r) (nI (rAt (xS x) φ r)) 120 (8 * D + e) = nI (rAt (xS x) φ e) := fun e he => by
        by_cases z : e = r
        · rw [z, st_at]
        · rw [st_k (by omega)]; exact s1 e (by omega)
      refine ⟨fun z => ?_, fun z => ?_⟩
      · refine ih (r + 1) _ (by omega) (fun o a b c => by rw [st_o a, f1 o a b c]) (fun k hk => by rw [st_k (by omega), f2 k hk]) (fun y => by rw [st_o (by omega), st_o (by omega)]; exact f3 y) s1' (fun y => absurd y z)
      · have z := Classical.not_not.mp z
        refine ⟨by cases (sD (xS x)).testBit r <;> simp, ?_⟩
        refine ih (r + 1) _ (by omega) (fun o a b c => by rw [st_o b, st_o c, st_o a, f1 o a b c]) (fun k hk => by rw [st_o (by omega), st_o (by omega), st_k (by omega), f2 k hk]) (fun y => absurd z y) (fun e he => by rw [st_o (by omega), st_o (by omega)]; exact s1' e he) (fun _ e he => ?_)
        rw [st_o (show (122 : Nat) ≠ 121 by omega)]
        by_cases y : e = r
        · rw [y, st_at, st_at]
          exact ⟨rfl, rfl⟩
        · rw [st_k y, st_k y, st_o (show (122 : Nat) ≠ 120 by omega), st_o (show (121 : Nat) ≠ 122 by omega), st_o (show (121 : Nat) ≠ 120 by omega)]
          exact s2 z e (by omega)
  simp only [e142, z142_0, z142_1, pv_catN, pv_cat1, pv_cat2, pv_cat3, pv_catL, Option.toList, List.nil_append, List.cons_append, List.append_nil, pv_rfS, pn_i, pn_r, pn_n, pn_o, true_and, and_true, Nat.le_refl, and_self, true_implies, false_implies, not_true_eq_false, not_false_eq_true, pv_b0, pv_b01, pv_bn0, pv_b1, Bool.false_eq_true, Bool.true_eq_false, Bool.not_false, Bool.not_true, pv_bT, pv_bF, eq_self]
  exact loop (tR (xT x)) 0 h (Nat.zero_add _) (fun _ _ _ _ => rfl) (fun _ _ => rfl) (fun _ => ⟨rfl, rfl⟩) (fun e he => absurd he (Nat.not_lt_zero e)) (fun _ e he => absurd he (Nat.not_lt_zero e))
set_option maxHeartbeats 1000000 in
theorem m143 {d : Nat} {P : PvP} {g : PvG} {h : PvH} {x : SX} (G : gM g) (M : cD h x) (O : okX x) {D : Nat} {φ ψ δ δ' : Nat → Nat} (hD : D < 3) (S : mS h x D ψ) (Gn : mG h x D φ) (V : mV h x D δ) (hψ : ∀ ρ, ρ < tR (xT x) → ψ ρ < tF (xT x)) (hd1 : ∀ ρ, ρ < tR (xT x) → φ ρ < sH (xS x) + D → ψ ρ = φ ρ) (hd2 : ∀ ρ, ρ < tR (xT x) → φ ρ ≤ ψ ρ) (hδ : ∀ ρ, ρ < tR (xT x) → th (xS x) ρ = true → hd (sK (xS x)) ρ = ρ → δ' ρ = if φ ρ < sH (xS x) + D then δ ρ else dUp (sH (xS x) + D) (ψ ρ) (δ ρ)) (hP : ∀ h' : PvH, (∀ o, o ≠ 121 → o ≠ 122 → h' o = h o) → (∀ k, k < 8 * D + 8 → h' 121 k = h 121 k ∧ h' 122 k = h 122 k) → mG h' x (D + 1) ψ → mV h' x (D + 1) δ' → P none g h') : pv_run (d + 1) 143 [.ref 102, .int (nI D)] g h P := by
  have hR := O.R
  have hF := O.F
  have hH := O.S.2.2.1
  have loop : ∀ n r (h1 : PvH) (w5 w6 : Option Value), r + n = tR (xT x) → (∀ o, o ≠ 121 → o ≠ 122 → h1 o = h o) → (∀ k, k < 8 * D + 8 → h1 121 k = h 121 k ∧ h1 122 k = h 122 k) → (∀ e, e < r → h1 122 (8 * (D + 1) + e) = pv_b (!(th (xS x) e) || decide (ψ (hd (sK (xS x)) e) < sH (xS x) + (D + 1)))) → (∀ e, e < r → th (xS x) e = true → h1 121 (8 * (D + 1) + e) = nI (sV (xS x) e - (if sK (xS x) e = 1 then 0 else δ' (hd (sK (xS x)) e)))) → pv_E d 143 P 15 [some (.ref 102), some (.int (nI D)), some (.int (nI (8 * D))), some (.int (nI (sH (xS x) + D))), some (.int (nI r)), w5, w6] [] 0 0 g h1 := by
    intro n
    induction n with
    | zero =>
      intro r h1 w5 w6 hr f1 f2 s1 s2
      have hr : r = tR (xT x) := hr
      subst hr
      have e6 : h1 102 6 = nI (tR (xT x)) := by rw [f1 102 (by omega) (by omega)]; exact M.M.R
      rw [z143_15]
      simp only [z143_17, z143_18, z143_21, z143_189, pv_catN, pv_cat1, pv_cat2, pv_cat3, pv_catL, Option.toList, List.nil_append, List.cons_append, List.append_nil, pv_rfS, pn_i, pn_r, pn_n, pn_o, true_and, and_true, Nat.le_refl, and_self, true_implies, false_implies, not_true_eq_false, not_false_eq_true, pv_b0, pv_b01, pv_bn0, pv_b1, Bool.false_eq_true, Bool.true_eq_false, Bool.not_false, Bool.not_true, pv_bT, pv_bF, eq_self, G.o, e6, nI_le' (show tR (xT x) < 2 ^ 31 by omega) (show tR (xT x) < 2 ^ 31 by omega)]
      exact hP h1 f1 f2 s1 s2
    | succ n ih =>
      intro r h1 w5 w6 hr f1 f2 s1 s2
      have hrR : r < tR (xT x) := by omega
      have hh := Nat.lt_of_le_of_lt (hd_le (sK (xS x)) r) hrR
      have N : cD h1 x := M.fr (fun o a b => f1 o (by omega) (by omega)) (fun k _ => by rw [f1 102 (by omega) (by omega)])
      have hsv := (O.S.1 r hrR).2.1
      have hk1 : (nI (sK (xS x) r) = 1) = (sK (xS x) r = 1) := nI_eq' (b := 1) (by have := O.K3 r hrR; omega) (by decide)
      have v0 := vp_nI (show 8 * D + r < 32 by omega) (show 32 < 2 ^ 31 by decide)
      have c0 := nI_clamp (show 8 * D + r < 2 ^ 31 by omega)
      have v1 := vp_nI (show 8 * (D + 1) + r < 32 by omega) (show 32 < 2 ^ 31 by decide)
      have c1 := nI_clamp (show 8 * (D + 1) + r < 2 ^ 31 by omega)
      have e88 : nI (8 * D) + 8 = nI (8 * (D + 1)) := by rw [nL8]; congr 1
      have e8b : nI (8 * (D + 1)) + nI r = nI (8 * (D + 1) + r) := nI_add _ _
      have eG : h1 122 (8 * D + r) = pv_b (!(th (xS x) r) || decide (φ (hd (sK (xS x)) r) < sH (xS x) + D)) := by rw [(f2 _ (by omega)).2]; exact Gn r hrR
      have eS : h1 120 (8 * D + r) = nI (rAt (xS x) ψ r) := by rw [f1 120 (by omega) (by omega)]; exact S r hrR
      have hr5 : rAt (xS x) ψ r < 5 := by
        unfold rAt
        have := hψ _ hh
        have := (O.S.1 r hrR).1
        split <;> omega
      have hth := th_hd O.S r hrR
      -- from where it is known who is gone
      have tail : ∀ (b ov : Bool), b = (!(th (xS x) r) || decide (ψ (hd (sK (xS x)) r) < sH (xS x) + (D + 1))) → (ov = decide (tF (xT x) ≤ sH (xS x) + D)) → ∀ w6 : Option Value, pv_E d 143 P 85 [some (.ref 102), some (.int (nI D)), some (.int (nI (8 * D))), some (.int (nI (sH (xS x) + D))), some (.int (nI r)), some (.int (pv_b ov)), w6] [.int (pv_b b), .int (nI (8 * (D + 1) + r)), .ref 122] 0 0 g h1 := by
        intro b ov hb hov w6
        have fin : ∀ (v : Int32) (w6 : Option Value), (th (xS x) r = true → v = nI (sV (xS x) r - (if sK (xS x) r = 1 then 0 else δ' (hd (sK (xS x)) r)))) → pv_E d 143 P 15 [some (.ref 102), some (.int (nI D)), some (.int (nI (8 * D))), some (.int (nI (sH (xS x) + D))), some (.int (nI (r + 1))), some (.int (pv_b ov)), w6] [] 0 0 g (pv_st (pv_st h1 122 (8 * (D + 1) + r) (pv_b b)) 121 (8 * (D + 1) + r) v) := fun v w6 hv => by
          refine ih (r + 1) _ _ _ (by omega) (fun o a c => by rw [st_o a, st_o c, f1 o a c]) (fun k hk => ?_) (fun e he => ?_) (fun e he ht => ?_)
          · rw [st_k (by omega), st_o (show (121 : Nat) ≠ 122 by omega), st_o (show (122 : Nat) ≠ 121 by omega), st_k (by omega)]
            exact f2 k hk
          · rw [st_o (by omega)]
            by_cases z : e = r
            · rw [z, st_at, hb]
            · rw [st_k (by omega)]; exact s1 e (by omega)
          · by_cases z : e = r
            · subst z
              rw [st_at]
              exact hv ht
            · rw [st_k (by omega), st_o (by omega)]; exact s2 e (by omega) ht
        have n1 : ∀ (v : Int32) k, pv_st h1 122 (8 * (D + 1) + r) v 120 k = h1 120 k := fun v k => by rw [st_o (by omega)]
        have n2 : ∀ (v : Int32) k, pv_st h1 122 (8 * (D + 1) + r) v 121 k = h1 121 k := fun v k => by rw [st_o (by omega)]
        have n3 : ∀ (v : Int32) k, pv_st h1 122 (8 * (D + 1) + r) v 108 k = h1 108 k := fun v k => by rw [st_o (by omega)]
        have s0 : ∀ v : Int32, v - 0 = v := fun v => Int32.sub_zero v
        have ee : (nI (rAt (xS x) ψ r) = nI (sH (xS x) + D + 1)) = (rAt (xS x) ψ r = sH (xS x) + D + 1) := nI_eq' (by omega) (by omega)
        simp only [z143_85, z143_86, z143_88, z143_91, z143_92, z143_95, z143_96, z143_98, z143_99, z143_101, z143_102, z143_103, z143_106, z143_107, z143_110, z143_111, z143_113, z143_114, z143_115, z143_116, z143_117, z143_118, z143_121, z143_122, z143_125, z143_127, z143_128, z143_129, z143_132, z143_133, z143_136, z143_137, z143_139, z143_140, z143_141, z143_144, z143_145, z143_148, z143_149, z143_151, z143_152, z143_155, z143_156, z143_158, z143_159, z143_161, z143_162, z143_163, z143_166, z143_167, z143_169, z143_170, z143_171, z143_173, z143_176, z143_177, z143_180, z143_181, z143_182, z143_183, z143_186, pv_catN, pv_cat1, pv_cat2, pv_cat3, pv_catL, Option.toList, List.nil_append, List.cons_append, List.append_nil, pv_rfS, pn_i, pn_r, pn_n, pn_o, true_and, and_true, Nat.le_refl, and_self, true_implies, false_implies, not_true_eq_false, not_false_eq_true, pv_b0, pv_b01, pv_bn0, pv_b1, Bool.false_eq_true, Bool.true_eq_false, Bool.not_false, Bool.not_true, pv_bT, pv_bF, eq_self, G.o, G.r30, G.t122, G.r28, G.t120, G.r29, G.t121, G.r10, G.t108, e88, e8b, e8N, v0, c0, v1, c1, st_at, n1, n2, n3, eS, ee, vp_nI (show r < 8 by omega) (show 8 < 2 ^ 31 by decide), nI_clamp (show r < 2 ^ 31 by omega), N.M.K r hrR, hk1, s0, i10, nI_1]
        have hval : th (xS x) r = true → h1 121 (8 * D + r) = nI (sV (xS x) r - (if sK (xS x) r = 1 then 0 else δ (hd (sK (xS x)) r))) := fun ht => by rw [(f2 _ (by omega)).1]; exact V r hrR ht
        -- not damp
        have no : (th (xS x) r = true → sV (xS x) r - (if sK (xS x) r = 1 then 0 else δ (hd (sK (xS x)) r)) = sV (xS x) r - (if sK (xS x) r = 1 then 0 else δ' (hd (sK (xS x)) r))) → ∀ w6 : Option Value, pv_E d 143 P 15 [some (.ref 102), some (.int (nI D)), some (.int (nI (8 * D))), some (.int (nI (sH (xS x) + D))), some (.int (nI (r + 1))), some (.int (pv_b ov)), w6] [] 0 0 g (pv_st (pv_st h1 122 (8 * (D + 1) + r) (pv_b b)) 121 (8 * (D + 1) + r) (h1 121 (8 * D + r))) := fun hc w6 => fin _ w6 (fun ht => by rw [hval ht, hc ht])
        have hδr : th (xS x) r = true → δ' (hd (sK (xS x)) r) = if φ (hd (sK (xS x)) r) < sH (xS x) + D then δ (hd (sK (xS x)) r) else dUp (sH (xS x) + D) (ψ (hd (sK (xS x)) r)) (δ (hd (sK (xS x)) r)) := fun ht => hδ _ hh (by rw [hth]; exact ht) (hd_hd _ _)
        have rA : th (xS x) r = true → rAt (xS x) ψ r = ψ (hd (sK (xS x)) r) := fun ht => by
          unfold rAt
          rw [if_pos ht]
        have same : (th (xS x) r = true → ¬ (¬ φ (hd (sK (xS x)) r) < sH (xS x) + D ∧ ψ (hd (sK (xS x)) r) = sH (xS x) + D + 1)) → th (xS x) r = true → sV (xS x) r - (if sK (xS x) r = 1 then 0 else δ (hd (sK (xS x)) r)) = sV (xS x) r - (if sK (xS x) r = 1 then 0 else δ' (hd (sK (xS x)) r)) := fun hc ht => by
          have hc := hc ht
          rw [hδr ht]
          by_cases z : φ (hd (sK (xS x)) r) < sH (xS x) + D
          · rw [if_pos z]
          · rw [if_neg z]
            unfold dUp
            rw [if_neg (fun y => hc ⟨z, y⟩)]
        have hψh := hψ _ hh
        have hd1h := hd1 _ hh
        refine ⟨by cases b <;> simp, fun c => ?_, fun c => ⟨fun c2 => ?_, fun c2 => ⟨fun c3 => ?_, fun c3 => ⟨fun c4 => ?_, fun c4 => ⟨fun c5 => ?_, fun c5 => ?_⟩⟩⟩⟩⟩
        · refine no (same (fun ht => ?_)) _
          have : tF (xT x) ≤ sH (xS x) + D := by
            rw [hov] at c
            simpa using c
          omega
        · refine no (same (fun ht => ?_)) _
          have : b = true := by
            cases b with
            | true => rfl
            | false => exact absurd rfl c2
          rw [this, ht] at hb
          have := of_decide_eq_true hb.symm
          omega
        · refine no (same (fun ht => ?_)) _
          rw [rA ht] at c3
          exact fun z => c3 z.2
        · refine no (fun ht => ?_) _
          rw [if_pos c4, if_pos c4]
        · refine no (fun ht => ?_) _
          have hv := hval ht
          rw [hv, show ((0 : Int32) = nI 0) from rfl, nI_le' (by omega) (by decide)] at c5
          rw [if_neg c4] at c5 ⊢
          rw [if_neg c4, hδr ht]
          split
          · rfl
          · unfold dUp
            split <;> omega
        · refine fin _ _ (fun ht => ?_)
          have hv := hval ht
          rw [hv, show ((0 : Int32) = nI 0) from rfl, nI_le' (by omega) (by decide)] at c5
          rw [hv]
          rw [if_neg c4] at c5 ⊢
          rw [if_neg c4, hδr ht]
          have c3 := Classical.not_not.mp c3
          rw [rA ht] at c3
          have hal : ¬ φ (hd (sK (xS x)) r) < sH (xS x) + D := fun z => by
            have := hd1h z
            omega
          rw [if_neg hal]
          unfold dUp
          rw [if_pos c3, show nI (sV (xS x) r - δ (hd (sK (xS x)) r)) - 1 = nI (sV (xS x) r - δ (hd (sK (xS x)) r) - 1) from pk_sub (b := 1) (by omega)]
          congr 1
      have eov : (nI (tF (xT x)) ≤ nI (sH (xS x) + D)) = (tF (xT x) ≤ sH (xS x) + D) := nI_le' (by omega) (by omega)
      have ee0 : (nI (rAt (xS x) ψ r) = nI (sH (xS x) + D)) = (rAt (xS x) ψ r = sH (xS x) + D) := nI_eq' (by omega) (by omega)
      have lt_ov : (nI (sH (xS x) + D) < nI (tF (xT x))) = (sH (xS x) + D < tF (xT x)) := nI_lt' (by omega) (by omega)
      have hψh := hψ _ hh
      have hd1h := hd1 _ hh
      have hd2h := hd2 _ hh
      have rA : th (xS x) r = true → rAt (xS x) ψ r = ψ (hd (sK (xS x)) r) := fun ht => by
        unfold rAt
        rw [if_pos ht]
      rw [z143_15]
      simp only [z143_17, z143_18, z143_21, z143_24, z143_25, z143_26, z143_29, z143_32, z143_33, z143_36, z143_37, z143_39, z143_40, z143_43, z143_44, z143_46, z143_47, z143_49, z143_50, z143_51, z143_54, z143_55, z143_57, z143_58, z143_59, z143_62, z143_64, z143_67, z143_68, z143_71, z143_72, z143_74, z143_75, z143_76, z143_77, z143_80, z143_81, z143_84, pv_catN, pv_cat1, pv_cat2, pv_cat3, pv_catL, Option.toList, List.nil_append, List.cons_append, List.append_nil, pv_rfS, pn_i, pn_r, pn_n, pn_o, true_and, and_true, Nat.le_refl, and_self, true_implies, false_implies, not_true_eq_false, not_false_eq_true, pv_b0, pv_b01, pv_bn0, pv_b1, Bool.false_eq_true, Bool.true_eq_false, Bool.not_false, Bool.not_true, pv_bT, pv_bF, eq_self, G.o, N.M.R, N.M.F, nI_le' (show tR (xT x) < 2 ^ 31 by omega) (show r < 2 ^ 31 by omega), show (tR (xT x) ≤ r) = False from eq_false (by omega), lt_ov, e88, e8b, e8N, G.r30, G.t122, G.r28, G.t120, v0, c0, eG, eS, ee0, i10]
      refine ⟨fun co => ⟨fun ca => ?_, fun ca => ⟨fun cs => ?_, fun cs => ?_⟩⟩, fun co => ⟨fun ca => ?_, fun ca => ?_⟩⟩
      · refine tail true false ?_ (by rw [decide_eq_false (by omega)]) _
        cases ht : th (xS x) r with
        | false => rfl
        | true =>
          rw [ht] at ca
          have hz : φ (hd (sK (xS x)) r) < sH (xS x) + D := by simpa using ca
          have := hd1h hz
          rw [decide_eq_true (show ψ (hd (sK (xS x)) r) < sH (xS x) + (D + 1) by omega)]
          rfl
      · refine tail false false ?_ (by rw [decide_eq_false (by omega)]) _
        have ca := Bool.or_eq_false_iff.mp (Classical.not_not.mp ca)
        have ht : th (xS x) r = true := by simpa using ca.1
        have hz := of_decide_eq_false ca.2
        rw [rA ht] at cs
        rw [ht, decide_eq_false (show ¬ ψ (hd (sK (xS x)) r) < sH (xS x) + (D + 1) by omega)]
        rfl
      · refine tail true false ?_ (by rw [decide_eq_false (by omega)]) _
        have ca := Bool.or_eq_false_iff.mp (Classical.not_not.mp ca)
        have ht : th (xS x) r = true := by simpa using ca.1
        have cs := Classical.not_not.mp cs
        rw [rA ht] at cs
        rw [ht, decide_eq_true (show ψ (hd (sK (xS x)) r) < sH (xS x) + (D + 1) by omega)]
        rfl
      · refine tail true true ?_ (by rw [decide_eq_true (by omega)]) _
        cases ht : th (xS x) r with
        | false => rfl
        | true =>
          rw [decide_eq_true (show ψ (hd (sK (xS x)) r) < sH (xS x) + (D + 1) by omega)]
          rfl
      · exfalso
        have ca := Bool.or_eq_false_iff.mp (Classical.not_not.mp ca)
        have ht : th (xS x) r = true := by simpa using ca.1
        have hz := of_decide_eq_false ca.2
        omega
  simp only [e143, z143_0, z143_2, z143_3, z143_4, z143_5, z143_6, z143_9, z143_10, z143_11, z143_12, z143_13, pv_catN, pv_cat1, pv_cat2, pv_cat3, pv_catL, Option.toList, List.nil_append, List.cons_append, List.append_nil, pv_rfS, pn_i, pn_r, pn_n, pn_o, true_and, and_true, Nat.le_refl, and_self, true_implies, false_implies, not_true_eq_false, not_false_eq_true, pv_b0, pv_b01, pv_bn0, pv_b1, Bool.false_eq_true, Bool.true_eq_false, Bool.not_false, Bool.not_true, pv_bT, pv_bF, eq_self, c8N, G.o, M.M.H, nI_add]
  exact loop (tR (xT x)) 0 h _ _ (Nat.zero_add _) (fun _ _ _ => rfl) (fun _ _ => ⟨rfl, rfl⟩) (fun e he => absurd he (Nat.not_lt_zero e)) (fun e he => absurd he (Nat.not_lt_zero e))
def mKN (t : ST) (s : SS) (D : Nat) (ψ δ : Nat → Nat) (n : Nat) : Nat := sm (fun r => if th s r = true then (if ψ (hd (sK s) r) < sH s + D then 0 else if sK s r = 2 then 0 else sV s r - (if sK s r = 1 then 0 else δ (hd (sK s) r))) else 0) n
theorem mKN_R {t : ST} {s : SS} (O : okS t s) (D : Nat) (ψ δ : Nat → Nat) : mKN t s D ψ δ (tR t) = pKept t s D ψ δ := by
  unfold mKN pKept
  rw [← ls_part O (fun r ρ => if ψ ρ < sH s + D then 0 else if sK s r = 2 then 0 else sV s r - (if sK s r = 1 then 0 else δ ρ))]
  refine ls_congr (fun ρ hρ => ?_)
  have h := rp_mem.mp hρ
  by_cases z : ψ ρ < sH s + D
  · rw [if_pos z]
    refine Eq.trans (sm_congr (fun r hr => ?_)) (sm_zero (tR t))
    rw [if_pos z]
    split <;> rfl
  · rw [if_neg z]
    unfold wor
    refine sm_congr (fun r hr => ?_)
    rw [grp_bit hr h.2.2, if_neg z]
theorem m144 {d : Nat} {P : PvP} {g : PvG} {h : PvH} {x : SX} (G : gM g) (M : cD h x) (O : okX x) {D : Nat} {ψ δ : Nat → Nat} (hD : D < 4) (Gn : mG h x D ψ) (V : mV h x D δ) (hP : P (some (.int (nI (pKept (xT x) (xS x) D ψ δ)))) g h) : pv_run (d + 1) 144 [.ref 102, .int (nI D)] g h P := by
  have hR := O.R
  have loop : ∀ n r, r + n = tR (xT x) → pv_E d 144 P 4 [some (.ref 102), some (.int (nI D)), some (.int (nI (mKN (xT x) (xS x) D ψ δ r))), some (.int (nI r))] [] 0 0 g h := by
    intro n
    induction n with
    | zero =>
      intro r hr
      have hr : r = tR (xT x) := hr
      subst hr
      rw [z144_4]
      simp only [z144_5, z144_6, z144_9, z144_60, z144_61, pv_catN, pv_cat1, pv_cat2, pv_cat3, pv_catL, Option.toList, List.nil_append, List.cons_append, List.append_nil, pv_rfS, pn_i, pn_r, pn_n, pn_o, true_and, and_true, Nat.le_refl, and_self, true_implies, false_implies, not_true_eq_false, not_false_eq_true, pv_b0, pv_b01, pv_bn0, pv_b1, Bool.false_eq_true, Bool.true_eq_false, Bool.not_false, Bool.not_true, pv_bT, pv_bF, eq_self, G.o, M.M.R, nI_le' (show tR (xT x) < 2 ^ 31 by omega) (show tR (xT x) < 2 ^ 31 by omega)]
      rw [mKN_R O.S]
      exact hP
    | succ n ih =>
      intro r hr
      have hrR : r < tR (xT x) := by omega
      have e : mKN (xT x) (xS x) D ψ δ (r + 1) = mKN (xT x) (xS x) D ψ δ r + (if th (xS x) r = true then (if ψ (hd (sK (xS x)) r) < sH (xS x) + D then 0 else if sK (xS x) r = 2 then 0 else sV (xS x) r - (if sK (xS x) r = 1 then 0 else δ (hd (sK (xS x)) r))) else 0) := rfl
      have ih := ih (r + 1) (by omega)
      rw [e] at ih
      have hk2 : (nI (sK (xS x) r) = 2) = (sK (xS x) r = 2) := nI_eq' (b := 2) (by have := O.K3 r hrR; omega) (by decide)
      have s0 : ∀ v : Int32, v + 0 = v := fun v => Int32.add_zero v
      rw [z144_4]
      simp only [z144_0, z144_1, z144_2, z144_3, z144_5, z144_6, z144_9, z144_12, z144_13, z144_14, z144_17, z144_19, z144_20, z144_21, z144_22, z144_23, z144_24, z144_27, z144_28, z144_31, z144_32, z144_33, z144_34, z144_37, z144_38, z144_41, z144_42, z144_45, z144_47, z144_48, z144_49, z144_50, z144_51, z144_52, z144_53, z144_54, z144_57, z144_60, z144_61, pv_catN, pv_cat1, pv_cat2, pv_cat3, pv_catL, Option.toList, List.nil_append, List.cons_append, List.append_nil, pv_rfS, pn_i, pn_r, pn_n, pn_o, true_and, and_true, Nat.le_refl, and_self, true_implies, false_implies, not_true_eq_false, not_false_eq_true, pv_b0, pv_b01, pv_bn0, pv_b1, Bool.false_eq_true, Bool.true_eq_false, Bool.not_false, Bool.not_true, pv_bT, pv_bF, eq_self, G.o, M.M.R, nI_le' (show tR (xT x) < 2 ^ 31 by omega) (show r < 2 ^ 31 by omega), show (tR (xT x) ≤ r) = False from eq_false (by omega), c8N, e8N, G.r30, G.t122, G.r10, G.t108, G.r29, G.t121, vp_nI (show 8 * D + r < 32 by omega) (show 32 < 2 ^ 31 by decide), nI_clamp (show 8 * D + r < 2 ^ 31 by omega), vp_nI (show r < 8 by omega) (show 8 < 2 ^ 31 by decide), nI_clamp (show r < 2 ^ 31 by omega), Gn r hrR, M.M.K r hrR, hk2, s0, nI_1]
      refine ⟨fun c => ?_, fun c => ⟨fun c2 => ?_, fun c2 => ?_⟩⟩
      · have c : (!(th (xS x) r) || decide (ψ (hd (sK (xS x)) r) < sH (xS x) + D)) = true := by
          cases z : (!(th (xS x) r) || decide (ψ (hd (sK (xS x)) r) < sH (xS x) + D)) with
          | false => exact absurd z c
          | true => rfl
        have z : (if th (xS x) r = true then (if ψ (hd (sK (xS x)) r) < sH (xS x) + D then 0 else if sK (xS x) r = 2 then 0 else sV (xS x) r - (if sK (xS x) r = 1 then 0 else δ (hd (sK (xS x)) r))) else 0) = 0 := by
          by_cases y : th (xS x) r = true
          · rw [if_pos y]
            rw [y] at c
            rw [if_pos (of_decide_eq_true c)]
          · rw [if_neg y]
        rw [z, Nat.add_zero] at ih
        exact ih
      · have c := Bool.or_eq_false_iff.mp (Classical.not_not.mp c)
        have ct : th (xS x) r = true := by simpa using c.1
        have ca := of_decide_eq_false c.2
        rw [if_pos ct, if_neg ca, if_neg c2] at ih
        rw [V r hrR ct, nI_add]
        exact ih
      · have c := Bool.or_eq_false_iff.mp (Classical.not_not.mp c)
        have ct : th (xS x) r = true := by simpa using c.1
        have ca := of_decide_eq_false c.2
        rw [if_pos ct, if_neg ca, if_pos (Classical.not_not.mp c2), Nat.add_zero] at ih
        exact ih
  simp only [e144, z144_0, z144_1, z144_2, z144_3, pv_catN, pv_cat1, pv_cat2, pv_cat3, pv_catL, Option.toList, List.nil_append, List.cons_append, List.append_nil, pv_rfS, pn_i, pn_r, pn_n, pn_o, true_and, and_true, Nat.le_refl, and_self, true_implies, false_implies, not_true_eq_false, not_false_eq_true, pv_b0, pv_b01, pv_bn0, pv_b1, Bool.false_eq_true, Bool.true_eq_false, Bool.not_false, Bool.not_true, pv_bT, pv_bF, eq_self]
  exact loop (tR (xT x)) 0 (Nat.zero_add _)
def mB (h : PvH) (x : SX) (b : PB) : Prop := h 102 32 = mR (-9) b.1 ∧ (0 < b.1 → h 102 33 = nI b.2.1 ∧ ∀ e, e < tR (xT x) → h 124 e = nI (rAt (xS x) b.2.2 e))
theorem m146 {d : Nat} {P : PvP} {g : PvG} {h : PvH} {x : SX} (G : gM g) (M : cD h x) (O : okX x) {D sp : Nat} {ψ δ row : Nat → Nat} {b : PB} (hD : D < 4) (Gn : mG h x D ψ) (V : mV h x D δ) (hsp : h 123 D = nI sp) (hs4 : sp ≤ 1000) (row0 : ∀ e, e < tR (xT x) → h 120 e = nI (rAt (xS x) row e)) (B : mB h x b) (hb : pBk b) (hP : ∀ h' : PvH, (∀ o, o ≠ 102 → o ≠ 124 → h' o = h o) → (∀ k, k ≠ 32 → k ≠ 33 → h' 102 k = h 102 k) → mB h' x (pUp b (pKept (xT x) (xS x) D ψ δ) sp row) → P none g h') : pv_run (d + 2) 146 [.ref 102, .int (nI D)] g h P := by
  have hR := O.R
  have hk := pKept_le O.T O.S D ψ δ
  generalize hkk : pKept (xT x) (xS x) D ψ δ = k at *
  have g1 := mR_gt (v := -9) (k := k) (b := b.1) (by decide) (by omega) (by have := hb.1; omega)
  have g2 := mR_eq (v := -9) (k := k) (b := b.1) (by decide) (by omega) (by have := hb.1; omega)
  -- the better one is set down
  have take : ¬ pNo b k sp → pv_E (d + 1) 146 P 35 [some (.ref 102), some (.int (nI D)), some (.int (nI k)), none] [] 0 0 g h := by
    intro hn
    rw [pUp_yes hn] at hP
    have loop : ∀ n r (h1 : PvH), r + n = tR (xT x) → (∀ o, o ≠ 102 → o ≠ 124 → h1 o = h o) → (∀ k, k ≠ 32 → k ≠ 33 → h1 102 k = h 102 k) → h1 102 32 = nI k → h1 102 33 = nI sp → (∀ e, e < r → h1 124 e = nI (rAt (xS x) row e)) → pv_E (d + 1) 146 P 52 [some (.ref 102), some (.int (nI D)), some (.int (nI k)), some (.int (nI r))] [] 0 0 g h1 := by
      intro n
      induction n with
      | zero =>
        intro r h1 hr f1 f2 c1 c2 c3
        have hr : r = tR (xT x) := hr
        subst hr
        have e6 : h1 102 6 = nI (tR (xT x)) := by rw [f2 6 (by omega) (by omega)]; exact M.M.R
        rw [z146_52]
        simp only [z146_53, z146_54, z146_57, z146_78, pv_catN, pv_cat1, pv_cat2, pv_cat3, pv_catL, Option.toList, List.nil_append, List.cons_append, List.append_nil, pv_rfS, pn_i, pn_r, pn_n, pn_o, true_and, and_true, Nat.le_refl, and_self, true_implies, false_implies, not_true_eq_false, not_false_eq_true, pv_b0, pv_b01, pv_bn0, pv_b1, Bool.false_eq_true, Bool.true_eq_false, Bool.not_false, Bool.not_true, pv_bT, pv_bF, eq_self, G.o, e6, nI_le' (show tR (xT x) < 2 ^ 31 by omega) (show tR (xT x) < 2 ^ 31 by omega)]
        refine hP h1 f1 f2 ⟨?_, fun _ => ⟨c2, c3⟩⟩
        rw [c1]
        rfl
      | succ n ih =>
        intro r h1 hr f1 f2 c1 c2 c3
        have hrR : r < tR (xT x) := by omega
        have e6 : h1 102 6 = nI (tR (xT x)) := by rw [f2 6 (by omega) (by omega)]; exact M.M.R
        have e120 : h1 120 r = nI (rAt (xS x) row r) := by rw [f1 120 (by omega) (by omega)]; exact row0 r hrR
        rw [z146_52]
        simp only [z146_53, z146_54, z146_57, z146_60, z146_61, z146_64, z146_65, z146_66, z146_69, z146_70, z146_71, z146_72, z146_75, pv_catN, pv_cat1, pv_cat2, pv_cat3, pv_catL, Option.toList, List.nil_append, List.cons_append, List.append_nil, pv_rfS, pn_i, pn_r, pn_n, pn_o, true_and, and_true, Nat.le_refl, and_self, true_implies, false_implies, not_true_eq_false, not_false_eq_true, pv_b0, pv_b01, pv_bn0, pv_b1, Bool.false_eq_true, Bool.true_eq_false, Bool.not_false, Bool.not_true, pv_bT, pv_bF, eq_self, G.o, e6, nI_le' (show tR (xT x) < 2 ^ 31 by omega) (show r < 2 ^ 31 by omega), show (tR (xT x) ≤ r) = False from eq_false (by omega), G.r34, G.t124, G.r28, G.t120, vp_nI (show r < 8 by omega) (show 8 < 2 ^ 31 by decide), vp_nI (show r < 32 by omega) (show 32 < 2 ^ 31 by decide), nI_clamp (show r < 2 ^ 31 by omega), e120, nI_1]
        refine ih (r + 1) _ (by omega) (fun o a b => by rw [st_o b, f1 o a b]) (fun k a b => by rw [st_o (by omega), f2 k a b]) (by rw [st_o (by omega)]; exact c1) (by rw [st_o (by omega)]; exact c2) (fun e he => ?_)
        by_cases z : e = r
        · rw [z, st_at]
        · rw [st_k z]; exact c3 e (by omega)
    have n1 : ∀ (j : Nat) (v : Int32), pv_st h 102 j v 123 = h 123 := fun j v => st_o (by omega)
    simp only [z146_35, z146_36, z146_37, z146_40, z146_41, z146_42, z146_45, z146_46, z146_47, z146_50, z146_51, pv_catN, pv_cat1, pv_cat2, pv_cat3, pv_catL, Option.toList, List.nil_append, List.cons_append, List.append_nil, pv_rfS, pn_i, pn_r, pn_n, pn_o, true_and, and_true, Nat.le_refl, and_self, true_implies, false_implies, not_true_eq_false, not_false_eq_true, pv_b0, pv_b01, pv_bn0, pv_b1, Bool.false_eq_true, Bool.true_eq_false, Bool.not_false, Bool.not_true, pv_bT, pv_bF, eq_self, G.o, G.r31, G.t123, n1, vp_nI (show D < 4 by omega) (show 4 < 2 ^ 31 by decide), nI_clamp (show D < 2 ^ 31 by omega), hsp]
    exact loop (tR (xT x)) 0 _ (Nat.zero_add _) (fun o a _ => by rw [st_o a, st_o a]) (fun k a b => by rw [st_k b, st_k a]) (by rw [st_k (by omega), st_at]) st_at (fun e he => absurd he (Nat.not_lt_zero e))
  have keep : pNo b k sp → P none g h := fun hn => hP h (fun _ _ _ => rfl) (fun _ _ _ => rfl) (by rw [pUp_no hn]; exact B)
  simp only [e146, z146_0, z146_1, pv_catN, pv_cat1, pv_cat2, pv_cat3, pv_catL, Option.toList, List.nil_append, List.cons_append, List.append_nil, pv_rfS, pn_i, pn_r, pn_n, pn_o, true_and, and_true, Nat.le_refl, and_self, true_implies, false_implies, not_true_eq_false, not_false_eq_true, pv_b0, pv_b01, pv_bn0, pv_b1, Bool.false_eq_true, Bool.true_eq_false, Bool.not_false, Bool.not_true, pv_bT, pv_bF, eq_self]
  rw [z146_2 (by simp [pv_cat, Value.category]) (by decide)]
  refine ⟨G.o, m144 G M O hD Gn V ?_⟩
  rw [hkk]
  simp only [z146_5, z146_6, z146_7, z146_8, z146_11, z146_14, z146_15, z146_16, z146_19, pv_catN, pv_cat1, pv_cat2, pv_cat3, pv_catL, Option.toList, List.nil_append, List.cons_append, List.append_nil, pv_rfS, pn_i, pn_r, pn_n, pn_o, true_and, and_true, Nat.le_refl, and_self, true_implies, false_implies, not_true_eq_false, not_false_eq_true, pv_b0, pv_b01, pv_bn0, pv_b1, Bool.false_eq_true, Bool.true_eq_false, Bool.not_false, Bool.not_true, pv_bT, pv_bF, eq_self, G.o, B.1, g1, g2]
  unfold pNo at take keep
  refine ⟨fun c => take (by omega), fun c => ⟨fun c2 => ?_, fun c2 => ?_⟩⟩
  · simp only [z146_78, pv_catN, pv_cat1, pv_cat2, pv_cat3, pv_catL, Option.toList, List.nil_append, List.cons_append, List.append_nil, pv_rfS, pn_i, pn_r, pn_n, pn_o, true_and, and_true, Nat.le_refl, and_self, true_implies, false_implies, not_true_eq_false, not_false_eq_true, pv_b0, pv_b01, pv_bn0, pv_b1, Bool.false_eq_true, Bool.true_eq_false, Bool.not_false, Bool.not_true, pv_bT, pv_bF, eq_self]
    exact keep (by omega)
  · have c2 := Classical.not_not.mp c2
    have e3 := (B.2 (by omega)).1
    simp only [z146_22, z146_23, z146_26, z146_27, z146_28, z146_29, z146_32, z146_78, pv_catN, pv_cat1, pv_cat2, pv_cat3, pv_catL, Option.toList, List.nil_append, List.cons_append, List.append_nil, pv_rfS, pn_i, pn_r, pn_n, pn_o, true_and, and_true, Nat.le_refl, and_self, true_implies, false_implies, not_true_eq_false, not_false_eq_true, pv_b0, pv_b01, pv_bn0, pv_b1, Bool.false_eq_true, Bool.true_eq_false, Bool.not_false, Bool.not_true, pv_bT, pv_bF, eq_self, G.o, G.r31, G.t123, vp_nI (show D < 4 by omega) (show 4 < 2 ^ 31 by decide), nI_clamp (show D < 2 ^ 31 by omega), hsp, e3, nI_le' (show b.2.1 < 2 ^ 31 by have := hb.2; omega) (show sp < 2 ^ 31 by omega)]
    exact ⟨fun c3 => keep (by omega), fun c3 => take (by omega)⟩
