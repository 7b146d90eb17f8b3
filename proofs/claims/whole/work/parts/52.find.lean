/-! plans, the model: the search -/
def ENf (h : PvH) (x : SX) (D : Nat) (φ δ : Nat → Nat) (sp : Nat) (row : Nat → Nat) : Prop := cD h x ∧ (∀ e, e < tR (xT x) → h 125 e = nI (hd (sK (xS x)) e)) ∧ mG h x D φ ∧ mV h x D δ ∧ h 123 D = nI sp ∧ mF h x D φ ∧ (0 < D → ∀ e, e < tR (xT x) → h 120 e = nI (rAt (xS x) row e))
theorem ENf.fr {h h' : PvH} {x : SX} {D : Nat} {φ δ : Nat → Nat} {sp : Nat} {row : Nat → Nat} (E : ENf h x D φ δ sp row) (hR : tR (xT x) ≤ 8) (F : MF h h' D) : ENf h' x D φ δ sp row := by
  obtain ⟨M, hh, Gn, V, s, f, r0⟩ := E
  refine ⟨F.cD M, fun e he => by rw [F.1 125 (by omega) (by omega) (by omega) (by omega) (by omega) (by omega) (by omega)]; exact hh e he, fun e he => by rw [(F.2.2.2.1 _ (by omega)).2]; exact Gn e he, fun e he ht => by rw [(F.2.2.2.1 _ (by omega)).1]; exact V e he ht, by rw [F.2.2.2.2 D (Nat.le_refl D)]; exact s, ⟨f.1, fun z e he => by rw [F.2.2.1 _ (by omega)]; exact f.2 z e he⟩, fun z e he => by rw [F.2.2.1 _ (by omega)]; exact r0 z e he⟩
theorem mS.fr {h h' : PvH} {x : SX} {D : Nat} {ψ : Nat → Nat} (S : mS h x D ψ) (hR : tR (xT x) ≤ 8) (F : ∀ k, k < 8 * D + 8 → h' 120 k = h 120 k) : mS h' x D ψ := fun e he => by rw [F _ (by omega)]; exact S e he
theorem rk_snoc (s : SS) : ∀ n k, rk s (n + 1) k = rk s n k ++ (if th s (k + n) && decide (hd (sK s) (k + n) = k + n) then [k + n] else [])
  | 0, k => by
    show (if th s k && decide (hd (sK s) k = k) then [k] else []) = [] ++ _
    rw [Nat.add_zero, List.nil_append]
  | n + 1, k => by
    show (if th s k && decide (hd (sK s) k = k) then k :: rk s (n + 1) (k + 1) else rk s (n + 1) (k + 1)) = (if th s k && decide (hd (sK s) k = k) then k :: rk s n (k + 1) else rk s n (k + 1)) ++ _
    rw [rk_snoc s n (k + 1), show k + 1 + n = k + (n + 1) by omega]
    by_cases c : (th s k && decide (hd (sK s) k = k)) = true
    · rw [if_pos c, if_pos c]
      rfl
    · rw [if_neg c, if_neg c]
theorem rk_rp (s : SS) : ∀ n, rk s n 0 = rp s n
  | 0 => rfl
  | n + 1 => by
    rw [rk_snoc, rk_rp s n, Nat.zero_add]
    unfold rp
    by_cases c : (th s n && decide (hd (sK s) n = n)) = true
    · rw [if_pos c, if_pos c]
      cases n <;> rfl
    · rw [if_neg c, if_neg c, List.append_nil]
      cases n <;> rfl
def Q145 (dd : Nat) (P : PvP) (d D : Nat) (w4 w5 w6 : Option Value) : PvP := fun v g1 h1 => pv_E dd 145 P 45 [some (.ref 102), some (.int (nI d)), some (.int (nI D)), some (.int 0), w4, w5, w6] (v.toList ++ []) 0 0 g1 h1
def SEN (g : PvG) (x : SX) (P : PvP) (d0 d n : Nat) : Prop := ∀ (D : Nat) (φ δ : Nat → Nat) (sp : Nat) (row : Nat → Nat) (b : PB) (h : PvH), D + n + 1 = d → ENf h x D φ δ sp row → mS h x D φ → mB h x b → pBk b → sp + 99 * (n + 1) ≤ 400 → (∀ ρ, ρ < tR (xT x) → φ ρ < tF (xT x)) → (∀ (h' : PvH) (w4 w5 w6 : Option Value), MF h h' D → mB h' x (pP (xT x) (xS x) (n + 1) D φ δ sp row b) → pv_E (d0 + 3) 145 P 32 [some (.ref 102), some (.int (nI d)), some (.int (nI D - 1)), some (.int 0), w4, w5, w6] [] 0 0 g h') → ∀ w4 w5 w6 : Option Value, pv_E (d0 + 3) 145 P 32 [some (.ref 102), some (.int (nI d)), some (.int (nI D)), some (.int 1), w4, w5, w6] [] 0 0 g h
set_option maxHeartbeats 2000000 in
theorem mPROC {g : PvG} {x : SX} {P : PvP} {d0 d n : Nat} (G : gM g) (O : okX x) (hd3 : d ≤ 3) (ih : ∀ m, n = m + 1 → SEN g x P d0 d m) {D : Nat} {φ ψ δ δ' : Nat → Nat} {sp : Nat} {row : Nat → Nat} {b : PB} {h : PvH} (hDn : D + n + 1 = d) (E : ENf h x D φ δ sp row) (S : mS h x D ψ) (B : mB h x b) (hb : pBk b) (hs : sp + 99 * (n + 1) ≤ 400) (hφ : ∀ ρ, ρ < tR (xT x) → φ ρ < tF (xT x)) (hψ : ∀ ρ, ρ < tR (xT x) → ψ ρ < tF (xT x) ∧ φ ρ ≤ ψ ρ ∧ (φ ρ < sH (xS x) + D → ψ ρ = φ ρ)) (hδ : ∀ ρ, ρ < tR (xT x) → th (xS x) ρ = true → hd (sK (xS x)) ρ = ρ → δ' ρ = if φ ρ < sH (xS x) + D then δ ρ else dUp (sH (xS x) + D) (ψ ρ) (δ ρ)) (hC : ∀ (h' : PvH) (w4 w5 w6 : Option Value), MF h h' D → mS h' x D ψ → mB h' x (pLf (xT x) (xS x) n D φ sp row ψ δ' b) → pv_E (d0 + 3) 145 P 32 [some (.ref 102), some (.int (nI d)), some (.int (nI D)), some (.int 0), w4, w5, w6] [] 0 0 g h') : ∀ w5 w6 : Option Value, pv_E (d0 + 3) 145 P 68 [some (.ref 102), some (.int (nI d)), some (.int (nI D)), some (.int 0), some (.int 1), w5, w6] [] 0 0 g h := by
  intro w5 w6
  have hR := O.R
  have hF := O.F
  have hH := O.S.2.2.1
  have hl := pLim_le O.S D
  obtain ⟨M, hh, Gn, V, hsp, f, r0⟩ := E
  have hcost : pCost (xT x) (xS x) D φ ψ ≤ 360 := by rw [← mCN_R O.S]; exact mCN_le O.T (fun ρ h => (hψ ρ h).1) (Nat.le_refl _)
  have at100 : ∀ L, L < 2 ^ 31 → decide (pCost (xT x) (xS x) D φ ψ ≤ L) = decide (pCost (xT x) (xS x) D φ ψ ≤ pLim (xS x) D) → pv_E (d0 + 3) 145 P 100 [some (.ref 102), some (.int (nI d)), some (.int (nI D)), some (.int 0), some (.int 1), w5, w6] [.int (nI L)] 0 0 g h := by
    intro L hL hLd
    simp only [z145_100, z145_102, z145_103, z145_104, z145_105, z145_108, z145_109, z145_110, pv_catN, pv_cat1, pv_cat2, pv_cat3, pv_catL, Option.toList, List.nil_append, List.cons_append, List.append_nil, pv_rfS, pn_i, pn_r, pn_n, pn_o, true_and, and_true, Nat.le_refl, and_self, true_implies, false_implies, not_true_eq_false, not_false_eq_true, pv_b0, pv_b01, pv_bn0, pv_b1, Bool.false_eq_true, Bool.true_eq_false, Bool.not_false, Bool.not_true, pv_bT, pv_bF, eq_self, G.o, M.M.H, nI_add]
    rw [z145_112 (by simp [pv_cat, Value.category]) (by decide)]
    refine ⟨G.o, m139 G M O (by omega) hL (fun ρ h => (hψ ρ h).1) (fun ρ h => (hψ ρ h).2.1) S Gn f fun h1 f1 => ?_⟩
    rw [hLd]
    have eok : (decide (pCost (xT x) (xS x) D φ ψ ≤ pLim (xS x) D) && pFit (xT x) (xS x) D φ ψ (tF (xT x))) = pOk (xT x) (xS x) D φ ψ := rfl
    rw [eok]
    have F1 : MF h h1 D := ⟨fun o _ _ _ _ _ _ a => f1 o a, fun k _ _ => by rw [f1 102 (by omega)], fun k _ => by rw [f1 120 (by omega)], fun k _ => ⟨by rw [f1 121 (by omega)], by rw [f1 122 (by omega)]⟩, fun k _ => by rw [f1 123 (by omega)]⟩
    cases hok : pOk (xT x) (xS x) D φ ψ with
    | false =>
      have e9 : ((99999 : Int32) ≤ nI 99999) = True := eq_true (by decide)
      rw [if_neg Bool.false_ne_true]
      have hv : pLf (xT x) (xS x) n D φ sp row ψ δ' b = b := by
        unfold pLf
        rw [hok]
        rfl
      rw [hv] at hC
      simp only [z145_115, z145_117, z145_119, z145_121, z145_171, pv_catN, pv_cat1, pv_cat2, pv_cat3, pv_catL, Option.toList, List.nil_append, List.cons_append, List.append_nil, pv_rfS, pn_i, pn_r, pn_n, pn_o, true_and, and_true, Nat.le_refl, and_self, true_implies, false_implies, not_true_eq_false, not_false_eq_true, pv_b0, pv_b01, pv_bn0, pv_b1, Bool.false_eq_true, Bool.true_eq_false, Bool.not_false, Bool.not_true, pv_bT, pv_bF, eq_self, e9]
      refine hC h1 _ _ _ F1 (S.fr hR (fun k _ => by rw [f1 120 (by omega)])) ⟨by rw [f1 102 (by omega)]; exact B.1, fun z => by rw [f1 102 (by omega), f1 124 (by omega)]; exact B.2 z⟩
    | true =>
      have hv : pLf (xT x) (xS x) n D φ sp row ψ δ' b = pP (xT x) (xS x) n (D + 1) ψ δ' (sp + pCost (xT x) (xS x) D φ ψ) (if D = 0 then ψ else row) b := by
        unfold pLf
        rw [if_pos hok]
      rw [hv] at hC
      have hcl : pCost (xT x) (xS x) D φ ψ ≤ pLim (xS x) D := of_decide_eq_true (Bool.and_eq_true_iff.mp hok).1
      have e9 : ((99999 : Int32) ≤ nI (pCost (xT x) (xS x) D φ ψ)) = False := eq_false (by rw [show (99999 : Int32) = nI 99999 from rfl, nI_le' (by decide) (by omega)]; omega)
      rw [if_pos rfl]
      have h1sp : h1 123 D = nI sp := by rw [f1 123 (by omega)]; exact hsp
      simp only [z145_115, z145_117, z145_119, z145_121, z145_124, z145_125, z145_128, z145_129, z145_130, z145_131, z145_132, z145_135, z145_136, z145_137, z145_139, z145_140, z145_141, z145_142, pv_catN, pv_cat1, pv_cat2, pv_cat3, pv_catL, Option.toList, List.nil_append, List.cons_append, List.append_nil, pv_rfS, pn_i, pn_r, pn_n, pn_o, true_and, and_true, Nat.le_refl, and_self, true_implies, false_implies, not_true_eq_false, not_false_eq_true, pv_b0, pv_b01, pv_bn0, pv_b1, Bool.false_eq_true, Bool.true_eq_false, Bool.not_false, Bool.not_true, pv_bT, pv_bF, eq_self, e9, G.o, G.r31, G.t123, nI_1, vp_nI (show D + 1 < 4 by omega) (show 4 < 2 ^ 31 by decide), nI_clamp (show D + 1 < 2 ^ 31 by omega), vp_nI (show D < 4 by omega) (show 4 < 2 ^ 31 by decide), nI_clamp (show D < 2 ^ 31 by omega), h1sp, nI_add]
      rw [z145_143 (by simp [pv_cat, Value.category]) (by decide)]
      have N2 : cD (pv_st h1 123 (D + 1) (nI (sp + pCost (xT x) (xS x) D φ ψ))) x := M.fr (fun o a b => by rw [st_o (by omega), f1 o (by omega)]) (fun k _ => by rw [st_o (by omega), f1 102 (by omega)])
      have q2 : ∀ o, o ≠ 123 → o ≠ 126 → pv_st h1 123 (D + 1) (nI (sp + pCost (xT x) (xS x) D φ ψ)) o = h o := fun o a b => by rw [st_o a, f1 o b]
      refine ⟨G.o, m143 (φ := φ) (ψ := ψ) (δ := δ) (δ' := δ') G N2 O (by omega) (fun e he => by rw [q2 _ (by omega) (by omega)]; exact S e he) (fun e he => by rw [q2 _ (by omega) (by omega)]; exact Gn e he) (fun e he ht => by rw [q2 _ (by omega) (by omega)]; exact V e he ht) (fun ρ h => (hψ ρ h).1) (fun ρ h => (hψ ρ h).2.2) (fun ρ h => (hψ ρ h).2.1) hδ fun h3 f3 g3 Gn3 V3 => ?_⟩
      have F3 : MF h h3 D := by
        refine ⟨fun o _ a2 a3 a4 a5 _ a7 => by rw [f3 o a3 a4, q2 o a5 a7], fun k _ _ => by rw [f3 102 (by omega) (by omega), q2 102 (by omega) (by omega)], fun k _ => by rw [f3 120 (by omega) (by omega), q2 120 (by omega) (by omega)], fun k hk => ?_, fun k hk => ?_⟩
        · rw [(g3 k hk).1, (g3 k hk).2, q2 121 (by omega) (by omega), q2 122 (by omega) (by omega)]
          exact ⟨rfl, rfl⟩
        · rw [f3 123 (by omega) (by omega), st_k (by omega), f1 123 (by omega)]
      have e120 : h3 120 = h 120 := by rw [f3 120 (by omega) (by omega), q2 120 (by omega) (by omega)]
      have e123 : h3 123 (D + 1) = nI (sp + pCost (xT x) (xS x) D φ ψ) := by rw [f3 123 (by omega) (by omega), st_at]
      have S3 : mS h3 x D ψ := S.fr hR (fun k _ => by rw [e120])
      have B3 : mB h3 x b := ⟨by rw [f3 102 (by omega) (by omega), q2 102 (by omega) (by omega)]; exact B.1, fun z => by rw [f3 102 (by omega) (by omega), q2 102 (by omega) (by omega), f3 124 (by omega) (by omega), q2 124 (by omega) (by omega)]; exact B.2 z⟩
      have row3 : ∀ e, e < tR (xT x) → h3 120 e = nI (rAt (xS x) (if D = 0 then ψ else row) e) := fun e he => by
        rw [e120]
        by_cases z : D = 0
        · rw [if_pos z]
          have := S e he
          rw [z, show 8 * 0 + e = e by omega] at this
          exact this
        · rw [if_neg z]
          exact r0 (by omega) e he
      have N3 := F3.cD M
      have ed : (nI (D + 1) = nI d) = (D + 1 = d) := nI_eq' (by omega) (by omega)
      simp only [z145_146, z145_147, z145_148, z145_149, z145_150, z145_153, z145_154, z145_161, z145_164, z145_165, pv_catN, pv_cat1, pv_cat2, pv_cat3, pv_catL, Option.toList, List.nil_append, List.cons_append, List.append_nil, pv_rfS, pn_i, pn_r, pn_n, pn_o, true_and, and_true, Nat.le_refl, and_self, true_implies, false_implies, not_true_eq_false, not_false_eq_true, pv_b0, pv_b01, pv_bn0, pv_b1, Bool.false_eq_true, Bool.true_eq_false, Bool.not_false, Bool.not_true, pv_bT, pv_bF, eq_self, nI_1, ed]
      refine ⟨fun c => ?_, fun c => ?_⟩
      · -- one decade deeper
        obtain ⟨m, rfl⟩ : ∃ m, n = m + 1 := ⟨n - 1, by omega⟩
        rw [z145_166 (by simp [pv_cat, Value.category]) (by decide)]
        have fD : mF h3 x (D + 1) ψ := ⟨fun z => absurd z (Nat.succ_ne_zero D), fun _ => by rw [Nat.add_sub_cancel]; exact S3⟩
        refine ⟨G.o, m142 (φ := ψ) G N3 O (by omega) fD (fun z => absurd z (Nat.succ_ne_zero D)) fun h4 f4 g4 k4 S4 _ => ?_⟩
        have k4 := k4 (Nat.succ_ne_zero D)
        have F4 : MF h3 h4 D := ⟨fun o _ a2 a3 a4 _ _ _ => f4 o a2 a3 a4, fun k _ _ => by rw [f4 102 (by omega) (by omega) (by omega)], fun k hk => g4 k (by omega), fun k _ => ⟨by rw [k4.1], by rw [k4.2]⟩, fun k _ => by rw [f4 123 (by omega) (by omega) (by omega)]⟩
        have E4 : ENf h4 x (D + 1) ψ δ' (sp + pCost (xT x) (xS x) D φ ψ) (if D = 0 then ψ else row) := by
          refine ⟨F4.cD N3, fun e he => ?_, fun e he => by rw [k4.2]; exact Gn3 e he, fun e he ht => by rw [k4.1]; exact V3 e he ht, by rw [f4 123 (by omega) (by omega) (by omega)]; exact e123, ⟨fun z => absurd z (Nat.succ_ne_zero D), fun _ e he => ?_⟩, fun _ e he => ?_⟩
          · rw [f4 125 (by omega) (by omega) (by omega), F3.1 125 (by omega) (by omega) (by omega) (by omega) (by omega) (by omega) (by omega)]
            exact hh e he
          · rw [Nat.add_sub_cancel, g4 _ (by omega)]
            exact S3 e he
          · rw [g4 _ (by omega)]
            exact row3 e he
        simp only [z145_169, z145_170, z145_171, pv_catN, pv_cat1, pv_cat2, pv_cat3, pv_catL, Option.toList, List.nil_append, List.cons_append, List.append_nil, pv_rfS, pn_i, pn_r, pn_n, pn_o, true_and, and_true, Nat.le_refl, and_self, true_implies, false_implies, not_true_eq_false, not_false_eq_true, pv_b0, pv_b01, pv_bn0, pv_b1, Bool.false_eq_true, Bool.true_eq_false, Bool.not_false, Bool.not_true, pv_bT, pv_bF, eq_self]
        refine ih m rfl (D + 1) ψ δ' (sp + pCost (xT x) (xS x) D φ ψ) (if D = 0 then ψ else row) b h4 (by omega) E4 S4 ⟨by rw [f4 102 (by omega) (by omega) (by omega)]; exact B3.1, fun z => by rw [f4 102 (by omega) (by omega) (by omega), f4 124 (by omega) (by omega) (by omega)]; exact B3.2 z⟩ hb (by omega) (fun ρ h => (hψ ρ h).1) (fun h5 w4 w5 w6 F5 B5 => ?_) _ _ _
        have eD : nI (D + 1) - 1 = nI D := nI_pred D
        rw [eD]
        have F35 : MF h3 h5 D := F4.tr F5 (by omega)
        refine hC h5 w4 w5 w6 (F3.tr F35 (Nat.le_refl D)) (S3.fr hR (fun k hk => ?_)) B5
        rw [F5.2.2.1 k (by omega), g4 k (by omega)]
      · -- the last one: it is weighed
        have hn0 : n = 0 := by omega
        subst hn0
        have c : D + 1 = d := Classical.not_not.mp c
        subst c
        rw [z145_155 (by simp [pv_cat, Value.category]) (by decide)]
        refine ⟨G.o, m146 (ψ := ψ) (δ := δ') (row := if D = 0 then ψ else row) (b := b) G N3 O (by omega) Gn3 V3 e123 (by omega) row3 B3 hb fun h4 f4 g4 B4 => ?_⟩
        simp only [z145_158, z145_171, pv_catN, pv_cat1, pv_cat2, pv_cat3, pv_catL, Option.toList, List.nil_append, List.cons_append, List.append_nil, pv_rfS, pn_i, pn_r, pn_n, pn_o, true_and, and_true, Nat.le_refl, and_self, true_implies, false_implies, not_true_eq_false, not_false_eq_true, pv_b0, pv_b01, pv_bn0, pv_b1, Bool.false_eq_true, Bool.true_eq_false, Bool.not_false, Bool.not_true, pv_bT, pv_bF, eq_self]
        have F4 : MF h3 h4 D := ⟨fun o a1 _ _ _ _ a6 _ => f4 o a1 a6, g4, fun k _ => by rw [f4 120 (by omega) (by omega)], fun k _ => ⟨by rw [f4 121 (by omega) (by omega)], by rw [f4 122 (by omega) (by omega)]⟩, fun k _ => by rw [f4 123 (by omega) (by omega)]⟩
        exact hC h4 _ _ _ (F3.tr F4 (Nat.le_refl D)) (S3.fr hR (fun k _ => by rw [f4 120 (by omega) (by omega)])) B4
  have e0 : (nI D = 0) = (D = 0) := nI_eq' (b := 0) (by omega) (by decide)
  have lt_ov : (nI (sH (xS x) + D) < nI (tF (xT x))) = (sH (xS x) + D < tF (xT x)) := nI_lt' (by omega) (by omega)
  simp only [z145_68, z145_69, z145_72, z145_73, z145_74, z145_75, z145_78, z145_81, z145_82, z145_85, z145_86, z145_89, z145_90, z145_93, z145_96, z145_97, pv_catN, pv_cat1, pv_cat2, pv_cat3, pv_catL, Option.toList, List.nil_append, List.cons_append, List.append_nil, pv_rfS, pn_i, pn_r, pn_n, pn_o, true_and, and_true, Nat.le_refl, and_self, true_implies, false_implies, not_true_eq_false, not_false_eq_true, pv_b0, pv_b01, pv_bn0, pv_b1, Bool.false_eq_true, Bool.true_eq_false, Bool.not_false, Bool.not_true, pv_bT, pv_bF, eq_self, G.o, M.M.H, M.M.F, M.M.L, M.M.E, nI_add, lt_ov, e0]
  refine ⟨fun c => ⟨fun c2 => ?_, fun c2 => ?_⟩, fun c => ?_⟩
  · have : pLim (xS x) D = sE (xS x) := by unfold pLim; rw [if_neg c2]
    exact at100 _ (by have := O.S.2.2.2.1; omega) (by rw [this])
  · have : pLim (xS x) D = sL (xS x) := by unfold pLim; rw [if_pos (Classical.not_not.mp c2)]
    exact at100 _ (by have := O.S.2.2.2.1; have := O.S.2.2.2.2.1; omega) (by rw [this])
  · have c0 : pCost (xT x) (xS x) D φ ψ = 0 := by
      have := ls_le (f := tCost (xT x) (xS x) D φ ψ) (c := 0) (l := rp (xS x) (tR (xT x))) (fun a ha => by
        have := hφ a (rp_mem.mp ha).1
        unfold tCost
        rw [if_pos (by omega)]
        exact Nat.le_refl 0)
      unfold pCost
      omega
    exact at100 0 (by decide) (by rw [c0, decide_eq_true (Nat.le_refl 0), decide_eq_true (Nat.zero_le _)])
