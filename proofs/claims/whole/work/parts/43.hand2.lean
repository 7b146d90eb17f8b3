/-! at hand, the model: from row to row -/
def Q152 (d : Nat) (P : PvP) (b : Nat) (w3 w4 w5 : Option Value) : PvP := fun v g1 h1 => pv_E d 152 P 267 [some (.ref 102), some (.int (nI b)), some (.int 1), w3, w4, w5] (v.toList ++ []) 0 0 g1 h1
theorem i10 : ((1 : Int32) = 0) = False := eq_false (by decide)
theorem m151_set {d : Nat} {Q : PvP} {g : PvG} {h0 : PvH} {x : SX} (G : gM g) (M : cD h0 x) (O : okX x) (hh : ∀ e, e < tR (xT x) → h0 125 e = nI (hd (sK (xS x)) e)) {k f : Nat} (hk : k < tR (xT x)) (hkt : th (xS x) k = true) (hkh : hd (sK (xS x)) k = k) {ψ : Nat → Nat} {w3 : Int32} (hC : ∀ h', HS h' h0 x (updN ψ k f) → pv_E d 151 Q 113 [some (.ref 102), some (.int (nI k)), some (.int (nI f)), some (.int w3), some (.int (nI (tR (xT x))))] [] 0 0 g h') {h : PvH} (H : HS h h0 x ψ) : pv_E d 151 Q 69 [some (.ref 102), some (.int (nI k)), some (.int (nI f)), some (.int w3), some (.int (nI k))] [] 0 0 g h := by
  have hR := O.R
  have lo : ∀ j, j < k → updN ψ k f (hd (sK (xS x)) j) = ψ (hd (sK (xS x)) j) := fun j hj => by
    have := hd_le (sK (xS x)) j
    unfold updN
    rw [if_neg (by omega)]
  have loop : ∀ n e (h1 : PvH), e + n = tR (xT x) → k ≤ e → (∀ o, o ≠ 120 → o ≠ 126 → h1 o = h0 o) → (∀ j, j < tR (xT x) → h1 120 j = nI (if th (xS x) j = true then (if j < e then updN ψ k f (hd (sK (xS x)) j) else ψ (hd (sK (xS x)) j)) else sP (xS x) j)) → pv_E d 151 Q 69 [some (.ref 102), some (.int (nI k)), some (.int (nI f)), some (.int w3), some (.int (nI e))] [] 0 0 g h1 := by
    intro n
    induction n with
    | zero =>
      intro e h1 he hke f1 f2
      have he : e = tR (xT x) := he
      subst he
      have e6 : h1 102 6 = nI (tR (xT x)) := by rw [f1 102 (by omega) (by omega)]; exact M.M.R
      rw [z151_69]
      simp only [z151_71, z151_72, z151_75, pv_catN, pv_cat1, pv_cat2, pv_cat3, pv_catL, Option.toList, List.nil_append, List.cons_append, List.append_nil, pv_rfS, pn_i, pn_r, pn_n, pn_o, true_and, and_true, Nat.le_refl, and_self, true_implies, false_implies, not_true_eq_false, not_false_eq_true, pv_b0, pv_b01, pv_bn0, pv_b1, Bool.false_eq_true, Bool.true_eq_false, Bool.not_false, Bool.not_true, pv_bT, pv_bF, eq_self, G.o, e6, nI_le' (show tR (xT x) < 2 ^ 31 by omega) (show tR (xT x) < 2 ^ 31 by omega)]
      refine hC h1 ⟨f1, fun j hj => ?_⟩
      rw [f2 j hj, if_pos hj]
    | succ n ih =>
      intro e h1 he hke f1 f2
      have heR : e < tR (xT x) := by omega
      have e6 : h1 102 6 = nI (tR (xT x)) := by rw [f1 102 (by omega) (by omega)]; exact M.M.R
      have e125 : h1 125 e = nI (hd (sK (xS x)) e) := by rw [f1 125 (by omega) (by omega)]; exact hh e heR
      have hle := hd_le (sK (xS x)) e
      have fin : ∀ v : Int32, v = nI (if th (xS x) e = true then updN ψ k f (hd (sK (xS x)) e) else sP (xS x) e) → pv_E d 151 Q 69 [some (.ref 102), some (.int (nI k)), some (.int (nI f)), some (.int w3), some (.int (nI (e + 1)))] [] 0 0 g (pv_st h1 120 e v) := fun v hv => by
        refine ih (e + 1) _ (by omega) (by omega) (fun o a b => by rw [st_o a, f1 o a b]) (fun j hj => ?_)
        by_cases z : j = e
        · subst z; rw [st_at, hv, if_pos (show j < j + 1 by omega)]
        · rw [st_k z, f2 j hj]
          by_cases y : j < e
          · rw [if_pos y, if_pos (show j < e + 1 by omega)]
          · rw [if_neg y, if_neg (show ¬ j < e + 1 by omega)]
      rw [z151_69]
      simp only [z151_71, z151_72, z151_75, z151_78, z151_79, z151_82, z151_84, z151_85, z151_88, z151_90, z151_91, z151_92, z151_95, z151_96, z151_99, z151_100, z151_103, z151_105, z151_106, z151_107, z151_110, pv_catN, pv_cat1, pv_cat2, pv_cat3, pv_catL, Option.toList, List.nil_append, List.cons_append, List.append_nil, pv_rfS, pn_i, pn_r, pn_n, pn_o, true_and, and_true, Nat.le_refl, and_self, true_implies, false_implies, not_true_eq_false, not_false_eq_true, pv_b0, pv_b01, pv_bn0, pv_b1, Bool.false_eq_true, Bool.true_eq_false, Bool.not_false, Bool.not_true, pv_bT, pv_bF, eq_self, G.o, e6, nI_le' (show tR (xT x) < 2 ^ 31 by omega) (show e < 2 ^ 31 by omega), show (tR (xT x) ≤ e) = False from eq_false (by omega), G.r28, G.t120, G.r35, G.t125, vp_nI (show e < 8 by omega) (show 8 < 2 ^ 31 by decide), vp_nI (show e < 32 by omega) (show 32 < 2 ^ 31 by decide), nI_clamp (show e < 2 ^ 31 by omega), e125, nI_eq' (show hd (sK (xS x)) e < 2 ^ 31 by omega) (show k < 2 ^ 31 by omega), nI_1]
      refine ⟨fun c => ?_, fun c => ?_⟩
      · refine fin _ ?_
        rw [f2 e heR, if_neg (show ¬ e < e by omega)]
        unfold updN
        rw [if_neg c]
      · have c := Classical.not_not.mp c
        refine fin _ ?_
        have ht := th_hd O.S e heR
        rw [c, hkt] at ht
        rw [if_pos ht.symm]
        unfold updN
        rw [if_pos c]
  refine loop (tR (xT x) - k) k h (by omega) (Nat.le_refl _) H.1 (fun j hj => ?_)
  rw [H.2 j hj]
  by_cases y : j < k
  · rw [if_pos y, lo j y]
  · rw [if_neg y]
theorem en_le {t : ST} {s : SS} (h : sH s ≤ tF t) (n k : Nat) (ψ : Nat → Nat) (b : Nat) : en t s (rk s n k) ψ b ≤ b := (en_mn (rk s n k) ψ b (rk_nodup _ _ _) h).1
theorem updN_2 {ψ : Nat → Nat} {k a b : Nat} : updN (updN ψ k a) k b = updN ψ k b := funext fun j => by
  unfold updN
  by_cases c : j = k
  · rw [if_pos c, if_pos c]
  · rw [if_neg c, if_neg c, if_neg c]
theorem updN_id {ψ : Nat → Nat} {k a : Nat} (h : ψ k = a) : updN ψ k a = ψ := funext fun j => by
  unfold updN
  by_cases c : j = k
  · rw [if_pos c, c, h]
  · rw [if_neg c]
theorem hand_L {d : Nat} {P : PvP} {g : PvG} {h0 : PvH} {x : SX} (G : gM g) (M : cD h0 x) (O : okX x) (hh : ∀ e, e < tR (xT x) → h0 125 e = nI (hd (sK (xS x)) e)) : ∀ n k (ψ : Nat → Nat) b (h : PvH), k + n = tR (xT x) → b ≤ 99999 → (∀ ρ, sH (xS x) ≤ ψ ρ ∧ ψ ρ < tF (xT x)) → (∀ ρ, k ≤ ρ → ψ ρ = sH (xS x)) → HS h h0 x ψ → (∀ (w1 w2 w3 w4 w5 w6 : Option Value) (h' : PvH), HS h' h0 x ψ → pv_E d 151 (Q152 (d + 1) P (en (xT x) (xS x) (rk (xS x) n k) ψ b) w4 w5 w6) 7 [some (.ref 102), some (.int (nI k - 1)), w1, w2, w3] [] 0 0 g h') → ∀ w3 w4 w5 : Option Value, pv_E (d + 1) 152 P 95 [some (.ref 102), some (.int (nI b)), some (.int 1), w3, w4, w5] [] 0 0 g h := by
  have hR := O.R
  have hF := O.F
  have hH := O.S.2.2.1
  intro n
  induction n with
  | zero =>
    intro k ψ b h hk hb hψ hs H hC
    have hk : k = tR (xT x) := hk
    subst hk
    refine m152_b G M O hψ hb H (fun h' w3 w4 w5 H' => ?_)
    have e6 : h' 102 6 = nI (tR (xT x)) := by rw [H'.1 102 (by omega) (by omega)]; exact M.M.R
    rw [z152_264 (by simp [pv_cat, Value.category]) (by decide)]
    refine ⟨G.o, ?_⟩
    show pv_run (d + 1) 151 [.ref 102] g h' (Q152 (d + 1) P (en (xT x) (xS x) (rk (xS x) 0 (tR (xT x))) ψ b) w3 w4 w5)
    simp only [e151, z151_0, z151_1, z151_4, z151_5, z151_6, pv_catN, pv_cat1, pv_cat2, pv_cat3, pv_catL, Option.toList, List.nil_append, List.cons_append, List.append_nil, pv_rfS, pn_i, pn_r, pn_n, pn_o, true_and, and_true, Nat.le_refl, and_self, true_implies, false_implies, not_true_eq_false, not_false_eq_true, pv_b0, pv_b01, pv_bn0, pv_b1, Bool.false_eq_true, Bool.true_eq_false, Bool.not_false, Bool.not_true, pv_bT, pv_bF, eq_self, G.o, e6]
    exact hC _ _ _ _ _ _ h' H'
  | succ n ih =>
    intro k ψ b h hk hb hψ hs H hC
    have hkR : k < tR (xT x) := by omega
    have ek : nI (k + 1) - 1 = nI k := nI_pred k
    have hle := hd_le (sK (xS x)) k
    have hrk : rk (xS x) (n + 1) k = if (th (xS x) k && decide (hd (sK (xS x)) k = k)) = true then k :: rk (xS x) n (k + 1) else rk (xS x) n (k + 1) := rfl
    have l0 : (nI k < 0) = False := eq_false (by rw [show (0 : Int32) = nI 0 from rfl, nI_lt' (by omega) (by decide)]; omega)
    cases hb2 : (th (xS x) k && decide (hd (sK (xS x)) k = k)) with
    | false =>
      rw [hrk, hb2, if_neg Bool.false_ne_true] at hC
      refine ih (k + 1) ψ b h (by omega) hb hψ (fun ρ hρ => hs ρ (by omega)) H (fun w1 w2 w3 w4 w5 w6 h' H' => ?_)
      have N : cD h' x := M.fr (fun o a b => H'.1 o (by omega) (by omega)) (fun k _ => by rw [H'.1 102 (by omega) (by omega)])
      have e125 : h' 125 k = nI (hd (sK (xS x)) k) := by rw [H'.1 125 (by omega) (by omega)]; exact hh k hkR
      rw [ek, z151_7]
      simp only [z151_8, z151_11, z151_12, z151_15, z151_16, z151_17, z151_20, z151_21, z151_24, z151_25, z151_26, z151_27, z151_119, z151_122, pv_catN, pv_cat1, pv_cat2, pv_cat3, pv_catL, Option.toList, List.nil_append, List.cons_append, List.append_nil, pv_rfS, pn_i, pn_r, pn_n, pn_o, true_and, and_true, Nat.le_refl, and_self, true_implies, false_implies, not_true_eq_false, not_false_eq_true, pv_b0, pv_b01, pv_bn0, pv_b1, Bool.false_eq_true, Bool.true_eq_false, Bool.not_false, Bool.not_true, pv_bT, pv_bF, eq_self, l0, G.o, G.r12, G.t110, G.r35, G.t125, vp_nI (show k < 8 by omega) (show 8 < 2 ^ 31 by decide), nI_clamp (show k < 2 ^ 31 by omega), N.M.D k hkR, e125, nI_eq' (show hd (sK (xS x)) k < 2 ^ 31 by omega) (show k < 2 ^ 31 by omega), pm1]
      refine ⟨fun _ => hC _ _ _ _ _ _ h' H', fun c => ⟨fun _ => hC _ _ _ _ _ _ h' H', fun c2 => ?_⟩⟩
      exfalso
      have c : (sD (xS x)).testBit k = false := by simpa using c
      have c2 := Classical.not_not.mp c2
      unfold th at hb2
      rw [c, c2] at hb2
      simp at hb2
    | true =>
      rw [hrk, hb2, if_pos rfl] at hC
      have hb3 := Bool.and_eq_true_iff.mp hb2
      have ht := hb3.1
      have hhd := of_decide_eq_true hb3.2
      have htD : (sD (xS x)).testBit k = false := by
        unfold th at ht
        simpa using ht
      have J : ∀ m t b (h1 : PvH), t + m + 1 = tF (xT x) → sH (xS x) ≤ t → b ≤ 99999 → HS h1 h0 x (updN ψ k t) → (∀ (w1 w2 w3 w4 w5 w6 : Option Value) (h' : PvH), HS h' h0 x ψ → pv_E d 151 (Q152 (d + 1) P (fo (fun u b => en (xT x) (xS x) (rk (xS x) n (k + 1)) (updN ψ k u) b) (m + 1) t b) w4 w5 w6) 7 [some (.ref 102), some (.int (nI k - 1)), w1, w2, w3] [] 0 0 g h') → ∀ w3 w4 w5 : Option Value, pv_E (d + 1) 152 P 95 [some (.ref 102), some (.int (nI b)), some (.int 1), w3, w4, w5] [] 0 0 g h1 := by
        intro m
        induction m with
        | zero =>
          intro t b h1 hm hw hbb H1 hCJ
          refine ih (k + 1) (updN ψ k t) b h1 (by omega) hbb (fun ρ => ?_) (fun ρ hρ => ?_) H1 (fun w1 w2 w3 w4 w5 w6 h' H' => ?_)
          · unfold updN
            by_cases z : ρ = k
            · rw [if_pos z]; exact ⟨hw, by omega⟩
            · rw [if_neg z]; exact hψ ρ
          · unfold updN
            rw [if_neg (by omega)]
            exact hs ρ (by omega)
          · have N : cD h' x := M.fr (fun o a b => H'.1 o (by omega) (by omega)) (fun k _ => by rw [H'.1 102 (by omega) (by omega)])
            have e125 : h' 125 k = nI (hd (sK (xS x)) k) := by rw [H'.1 125 (by omega) (by omega)]; exact hh k hkR
            have e120 : h' 120 k = nI t := by
              rw [H'.2 k hkR, if_pos ht, hhd]
              unfold updN
              rw [if_pos rfl]
            rw [ek, z151_7]
            simp only [z151_8, z151_11, z151_12, z151_15, z151_16, z151_17, z151_20, z151_21, z151_24, z151_25, z151_26, z151_27, z151_30, z151_31, z151_34, z151_35, z151_36, z151_37, z151_38, z151_39, z151_40, z151_41, z151_44, z151_51, z151_52, z151_53, z151_54, z151_61, z151_62, z151_65, z151_66, z151_67, pv_catN, pv_cat1, pv_cat2, pv_cat3, pv_catL, Option.toList, List.nil_append, List.cons_append, List.append_nil, pv_rfS, pn_i, pn_r, pn_n, pn_o, true_and, and_true, Nat.le_refl, and_self, true_implies, false_implies, not_true_eq_false, not_false_eq_true, pv_b0, pv_b01, pv_bn0, pv_b1, Bool.false_eq_true, Bool.true_eq_false, Bool.not_false, Bool.not_true, pv_bT, pv_bF, eq_self, l0, G.o, G.r12, G.t110, G.r35, G.t125, G.r28, G.t120, vp_nI (show k < 8 by omega) (show 8 < 2 ^ 31 by decide), vp_nI (show k < 32 by omega) (show 32 < 2 ^ 31 by decide), nI_clamp (show k < 2 ^ 31 by omega), N.M.D k hkR, htD, e125, hhd, e120, nI_1, N.M.F, N.M.H, nI_le' (show tF (xT x) < 2 ^ 31 by omega) (show t + 1 < 2 ^ 31 by omega), show (tF (xT x) ≤ t + 1) = True from eq_true (by omega)]
            refine m151_set (f := sH (xS x)) G M O hh hkR ht hhd (fun h'' H'' => ?_) H'
            simp only [z151_113, z151_114, z151_119, z151_122, pv_catN, pv_cat1, pv_cat2, pv_cat3, pv_catL, Option.toList, List.nil_append, List.cons_append, List.append_nil, pv_rfS, pn_i, pn_r, pn_n, pn_o, true_and, and_true, Nat.le_refl, and_self, true_implies, false_implies, not_true_eq_false, not_false_eq_true, pv_b0, pv_b01, pv_bn0, pv_b1, Bool.false_eq_true, Bool.true_eq_false, Bool.not_false, Bool.not_true, pv_bT, pv_bF, eq_self, pm1]
            rw [updN_2, updN_id (hs k (Nat.le_refl _))] at H''
            exact hCJ _ _ _ _ _ _ h'' H''
        | succ m ihm =>
          intro t b h1 hm hw hbb H1 hCJ
          refine ih (k + 1) (updN ψ k t) b h1 (by omega) hbb (fun ρ => ?_) (fun ρ hρ => ?_) H1 (fun w1 w2 w3 w4 w5 w6 h' H' => ?_)
          · unfold updN
            by_cases z : ρ = k
            · rw [if_pos z]; exact ⟨hw, by omega⟩
            · rw [if_neg z]; exact hψ ρ
          · unfold updN
            rw [if_neg (by omega)]
            exact hs ρ (by omega)
          · have N : cD h' x := M.fr (fun o a b => H'.1 o (by omega) (by omega)) (fun k _ => by rw [H'.1 102 (by omega) (by omega)])
            have e125 : h' 125 k = nI (hd (sK (xS x)) k) := by rw [H'.1 125 (by omega) (by omega)]; exact hh k hkR
            have e120 : h' 120 k = nI t := by
              rw [H'.2 k hkR, if_pos ht, hhd]
              unfold updN
              rw [if_pos rfl]
            rw [ek, z151_7]
            simp only [z151_8, z151_11, z151_12, z151_15, z151_16, z151_17, z151_20, z151_21, z151_24, z151_25, z151_26, z151_27, z151_30, z151_31, z151_34, z151_35, z151_36, z151_37, z151_38, z151_39, z151_40, z151_41, z151_44, z151_47, z151_48, z151_52, z151_53, z151_54, z151_57, z151_58, z151_65, z151_66, z151_67, pv_catN, pv_cat1, pv_cat2, pv_cat3, pv_catL, Option.toList, List.nil_append, List.cons_append, List.append_nil, pv_rfS, pn_i, pn_r, pn_n, pn_o, true_and, and_true, Nat.le_refl, and_self, true_implies, false_implies, not_true_eq_false, not_false_eq_true, pv_b0, pv_b01, pv_bn0, pv_b1, Bool.false_eq_true, Bool.true_eq_false, Bool.not_false, Bool.not_true, pv_bT, pv_bF, eq_self, l0, G.o, G.r12, G.t110, G.r35, G.t125, G.r28, G.t120, vp_nI (show k < 8 by omega) (show 8 < 2 ^ 31 by decide), vp_nI (show k < 32 by omega) (show 32 < 2 ^ 31 by decide), nI_clamp (show k < 2 ^ 31 by omega), N.M.D k hkR, htD, e125, hhd, e120, nI_1, N.M.F, N.M.H, nI_le' (show tF (xT x) < 2 ^ 31 by omega) (show t + 1 < 2 ^ 31 by omega), show (tF (xT x) ≤ t + 1) = False from eq_false (by omega), i10]
            refine m151_set (f := t + 1) G M O hh hkR ht hhd (fun h'' H'' => ?_) H'
            simp only [z151_113, z151_114, z151_117, z151_118, pv_catN, pv_cat1, pv_cat2, pv_cat3, pv_catL, Option.toList, List.nil_append, List.cons_append, List.append_nil, pv_rfS, pn_i, pn_r, pn_n, pn_o, true_and, and_true, Nat.le_refl, and_self, true_implies, false_implies, not_true_eq_false, not_false_eq_true, pv_b0, pv_b01, pv_bn0, pv_b1, Bool.false_eq_true, Bool.true_eq_false, Bool.not_false, Bool.not_true, pv_bT, pv_bF, eq_self, i10]
            rw [updN_2] at H''
            refine ⟨Or.inr trivial, ?_⟩
            show pv_E (d + 1) 152 P 267 _ _ 0 0 g h''
            simp only [z152_267, z152_268, pv_catN, pv_cat1, pv_cat2, pv_cat3, pv_catL, Option.toList, List.nil_append, List.cons_append, List.append_nil, pv_rfS, pn_i, pn_r, pn_n, pn_o, true_and, and_true, Nat.le_refl, and_self, true_implies, false_implies, not_true_eq_false, not_false_eq_true, pv_b0, pv_b01, pv_bn0, pv_b1, Bool.false_eq_true, Bool.true_eq_false, Bool.not_false, Bool.not_true, pv_bT, pv_bF, eq_self]
            exact ihm (t + 1) _ h'' (by omega) (by omega) (Nat.le_trans (en_le hH n (k + 1) (updN ψ k t) b) hbb) H'' hCJ _ _ _
      have hwk := hψ k
      rw [hs k (Nat.le_refl _)] at hwk
      refine J (tF (xT x) - sH (xS x) - 1) (sH (xS x)) b h (by omega) (Nat.le_refl _) hb (by rw [updN_id (hs k (Nat.le_refl _))]; exact H) (fun w1 w2 w3 w4 w5 w6 h' H' => ?_)
      have := hC w1 w2 w3 w4 w5 w6 h' H'
      rw [show tF (xT x) - sH (xS x) - 1 + 1 = tF (xT x) - sH (xS x) by omega]
      exact this
theorem th_none {t : ST} {s : SS} (h : mk (th s) (tR t) = 0) {r : Nat} (hr : r < tR t) : th s r = false := by
  have := mk_bit (th s) (tR t) r
  rw [h, Nat.zero_testBit, decide_eq_true hr, Bool.true_and] at this
  exact this.symm
theorem handN_0 {x : SX} (O : okX x) (h : mk (th (xS x)) (tR (xT x)) = 0) : handN x = 0 := by
  have hs : SA (xT x) (xS x) 0 := by
    refine ⟨fun _ => 0, fun ρ a b _ => ?_, fun f hf => ?_, ?_⟩
    · rw [th_none h a] at b
      exact absurd b (by decide)
    · have e : hLoad (xT x) (xS x) (fun _ => 0) f = 0 := by
        refine Eq.trans (sm_congr (fun r hr => ?_)) (sm_zero (tR (xT x)))
        show (if th (xS x) r = true then _ else 0) = 0
        rw [th_none h hr]
        rfl
      rw [e]
      exact Nat.zero_le _
    · refine (Eq.trans (sm_congr (fun r hr => ?_)) (sm_zero (tR (xT x)))).symm
      show (if th (xS x) r = true then _ else 0) = 0
      rw [th_none h hr]
      rfl
  have := (handN_mn O).2.1 0 hs
  omega
set_option maxHeartbeats 1000000 in
theorem oM152 {x : SX} (O : okX x) : OpM 4 152 [] x (.int (handA x)) x := by
  intro d P g h ⟨G, M0⟩ hP
  have M := M0.t0
  have hR := O.R
  have hF := O.F
  have hT := nTh_le O
  have hH := O.S.2.2.1
  unfold handA at hP
  generalize hh : pv_st h 102 0 0 = h0 at M
  have F0 : FM h h0 := hh ▸ FM.rf.st (by omega)
  have hmk : mk (th (xS x)) (tR (xT x)) < 256 := p8 (mk_lt _ _) hR
  simp only [e152, z152_0, z152_1, z152_2, z152_5, pv_catN, pv_cat1, pv_cat2, pv_cat3, pv_catL, Option.toList, List.nil_append, List.cons_append, List.append_nil, pv_rfS, pn_i, pn_r, pn_n, pn_o, true_and, and_true, Nat.le_refl, and_self, true_implies, false_implies, not_true_eq_false, not_false_eq_true, pv_b0, pv_b01, pv_bn0, pv_b1, Bool.false_eq_true, Bool.true_eq_false, Bool.not_false, Bool.not_true, pv_bT, pv_bF, eq_self, G.o, hh]
  rw [z152_6 (by simp [pv_cat, Value.category]) (by decide)]
  refine ⟨G.o, m117 G M.M hR ?_⟩
  simp only [Option.toList, List.cons_append, List.nil_append]
  rw [z152_9 (by simp [pv_cat, Value.category]) (by decide)]
  refine m118 hmk ?_
  have e6 : (nI (nTh x) ≤ 6) = (nTh x ≤ 6) := nI_le' (b := 6) (by omega) (by decide)
  simp only [z152_12, z152_14, z152_17, z152_19, z152_20, pv_catN, pv_cat1, pv_cat2, pv_cat3, pv_catL, Option.toList, List.nil_append, List.cons_append, List.append_nil, pv_rfS, pn_i, pn_r, pn_n, pn_o, true_and, and_true, Nat.le_refl, and_self, true_implies, false_implies, not_true_eq_false, not_false_eq_true, pv_b0, pv_b01, pv_bn0, pv_b1, Bool.false_eq_true, Bool.true_eq_false, Bool.not_false, Bool.not_true, pv_bT, pv_bF, eq_self, show nI (pc (mk (th (xS x)) (tR (xT x)))) = nI (nTh x) from rfl, e6]
  refine ⟨fun c => ?_, fun c => ?_⟩
  rotate_left
  · rw [if_neg c] at hP
    exact hP h0 ⟨G, M⟩ F0
  · rw [if_pos c] at hP
    rw [z152_21 (by simp [pv_cat, Value.category]) (by decide)]
    refine ⟨G.o, m131 G M O fun h1 f1 hd1 => ?_⟩
    have M1 : cD h1 x := M.fr (fun o a b => f1 o (by omega)) (fun k _ => by rw [f1 102 (by omega)])
    have done : ∀ h' : PvH, (∀ o, o ≠ 120 → o ≠ 126 → h' o = h1 o) → P (some (.int (nI (handN x)))) g h' := fun h' f => hP h' ⟨G, M1.fr (fun o a b => f o (by omega) (by omega)) (fun k _ => by rw [f 102 (by omega) (by omega)])⟩ (fun o ho => by rw [f o (by omega) (by omega), f1 o (by omega)]; exact F0 o ho)
    -- the floors from which all begins
    have tail : ∀ h2 : PvH, HS h2 h1 x (fun _ => sH (xS x)) → pv_E (d + 3) 152 P 68 [some (.ref 102), some (.int (nI (tR (xT x)))), none, none, none, none] [] 0 0 g h2 := by
      intro h2 H2
      have M2 : cD h2 x := M1.fr (fun o a b => H2.1 o (by omega) (by omega)) (fun k _ => by rw [H2.1 102 (by omega) (by omega)])
      have em0 : (nI (mk (th (xS x)) (tR (xT x))) = 0) = (mk (th (xS x)) (tR (xT x)) = 0) := nI_eq' (b := 0) (by omega) (by decide)
      simp only [z152_68, pv_catN, pv_cat1, pv_cat2, pv_cat3, pv_catL, Option.toList, List.nil_append, List.cons_append, List.append_nil, pv_rfS, pn_i, pn_r, pn_n, pn_o, true_and, and_true, Nat.le_refl, and_self, true_implies, false_implies, not_true_eq_false, not_false_eq_true, pv_b0, pv_b01, pv_bn0, pv_b1, Bool.false_eq_true, Bool.true_eq_false, Bool.not_false, Bool.not_true, pv_bT, pv_bF, eq_self]
      rw [z152_69 (by simp [pv_cat, Value.category]) (by decide)]
      refine ⟨G.o, m117 G M2.M hR ?_⟩
      simp only [z152_72, z152_75, z152_76, z152_79, z152_81, z152_82, pv_catN, pv_cat1, pv_cat2, pv_cat3, pv_catL, Option.toList, List.nil_append, List.cons_append, List.append_nil, pv_rfS, pn_i, pn_r, pn_n, pn_o, true_and, and_true, Nat.le_refl, and_self, true_implies, false_implies, not_true_eq_false, not_false_eq_true, pv_b0, pv_b01, pv_bn0, pv_b1, Bool.false_eq_true, Bool.true_eq_false, Bool.not_false, Bool.not_true, pv_bT, pv_bF, eq_self, em0]
      refine ⟨fun c0 => ?_, fun c0 => ?_⟩
      · rw [z152_83 (by simp [pv_cat, Value.category]) (by decide)]
        refine ⟨G.o, m117 G M2.M hR ?_⟩
        simp only [z152_86, z152_89, z152_90, z152_93, z152_94, pv_catN, pv_cat1, pv_cat2, pv_cat3, pv_catL, Option.toList, List.nil_append, List.cons_append, List.append_nil, pv_rfS, pn_i, pn_r, pn_n, pn_o, true_and, and_true, Nat.le_refl, and_self, true_implies, false_implies, not_true_eq_false, not_false_eq_true, pv_b0, pv_b01, pv_bn0, pv_b1, Bool.false_eq_true, Bool.true_eq_false, Bool.not_false, Bool.not_true, pv_bT, pv_bF, eq_self, em0]
        refine ⟨fun c1 => absurd c1 c0, fun _ => ?_⟩
        have hwF : sH (xS x) < tF (xT x) := by
          rcases Nat.lt_or_ge (sH (xS x)) (tF (xT x)) with z | z
          · exact z
          · exfalso
            refine c0 (Nat.eq_of_testBit_eq fun r => ?_)
            rw [Nat.zero_testBit, mk_bit]
            by_cases hr : r < tR (xT x)
            · have h1 := (O.S.1 r hr).1
              have h2 := (O.S.2.2.2.2.2.1 r hr).mpr (by omega)
              unfold th
              rw [h2]
              simp
            · rw [decide_eq_false hr]; rfl
        refine hand_L (d := d + 2) G M1 O hd1 (tR (xT x)) 0 (fun _ => sH (xS x)) 99999 h2 (Nat.zero_add _) (Nat.le_refl _) (fun _ => ⟨Nat.le_refl _, hwF⟩) (fun _ _ => rfl) H2 (fun w1 w2 w3 w4 w5 w6 h' H' => ?_) _ _ _
        simp only [z151_7, z151_8, z151_125, z151_126, pv_catN, pv_cat1, pv_cat2, pv_cat3, pv_catL, Option.toList, List.nil_append, List.cons_append, List.append_nil, pv_rfS, pn_i, pn_r, pn_n, pn_o, true_and, and_true, Nat.le_refl, and_self, true_implies, false_implies, not_true_eq_false, not_false_eq_true, pv_b0, pv_b01, pv_bn0, pv_b1, Bool.false_eq_true, Bool.true_eq_false, Bool.not_false, Bool.not_true, pv_bT, pv_bF, eq_self, m1z, show ((-1 : Int32) < 0) = True from eq_true (by decide)]
        refine ⟨Or.inl trivial, ?_⟩
        show pv_E (d + 2 + 1) 152 P 267 _ _ 0 0 g h'
        simp only [z152_267, z152_268, z152_95, z152_96, z152_271, z152_272, pv_catN, pv_cat1, pv_cat2, pv_cat3, pv_catL, Option.toList, List.nil_append, List.cons_append, List.append_nil, pv_rfS, pn_i, pn_r, pn_n, pn_o, true_and, and_true, Nat.le_refl, and_self, true_implies, false_implies, not_true_eq_false, not_false_eq_true, pv_b0, pv_b01, pv_bn0, pv_b1, Bool.false_eq_true, Bool.true_eq_false, Bool.not_false, Bool.not_true, pv_bT, pv_bF, eq_self]
        have hm : en (xT x) (xS x) (rk (xS x) (tR (xT x)) 0) (fun _ => sH (xS x)) 99999 = handN x := handMN O
        rw [hm]
        exact done h' H'.1
      · have c0 := Classical.not_not.mp c0
        rw [z152_83 (by simp [pv_cat, Value.category]) (by decide)]
        refine ⟨G.o, m117 G M2.M hR ?_⟩
        simp only [z152_86, z152_89, z152_90, z152_93, z152_94, z152_95, z152_96, z152_271, z152_272, pv_catN, pv_cat1, pv_cat2, pv_cat3, pv_catL, Option.toList, List.nil_append, List.cons_append, List.append_nil, pv_rfS, pn_i, pn_r, pn_n, pn_o, true_and, and_true, Nat.le_refl, and_self, true_implies, false_implies, not_true_eq_false, not_false_eq_true, pv_b0, pv_b01, pv_bn0, pv_b1, Bool.false_eq_true, Bool.true_eq_false, Bool.not_false, Bool.not_true, pv_bT, pv_bF, eq_self, em0]
        refine ⟨fun _ => ?_, fun c1 => absurd c0 c1⟩
        have := done h2 H2.1
        rw [handN_0 O c0] at this
        exact this
    have loop : ∀ n r (h2 : PvH), r + n = tR (xT x) → (∀ o, o ≠ 120 → h2 o = h1 o) → (∀ e, e < r → h2 120 e = nI (if th (xS x) e = true then sH (xS x) else sP (xS x) e)) → pv_E (d + 3) 152 P 26 [some (.ref 102), some (.int (nI r)), none, none, none, none] [] 0 0 g h2 := by
      intro n
      induction n with
      | zero =>
        intro r h2 hr f2 s2
        have hr : r = tR (xT x) := hr
        subst hr
        have e6 : h2 102 6 = nI (tR (xT x)) := by rw [f2 102 (by omega)]; exact M1.M.R
        rw [z152_26]
        simp only [z152_27, z152_28, z152_31, pv_catN, pv_cat1, pv_cat2, pv_cat3, pv_catL, Option.toList, List.nil_append, List.cons_append, List.append_nil, pv_rfS, pn_i, pn_r, pn_n, pn_o, true_and, and_true, Nat.le_refl, and_self, true_implies, false_implies, not_true_eq_false, not_false_eq_true, pv_b0, pv_b01, pv_bn0, pv_b1, Bool.false_eq_true, Bool.true_eq_false, Bool.not_false, Bool.not_true, pv_bT, pv_bF, eq_self, G.o, e6, nI_le' (show tR (xT x) < 2 ^ 31 by omega) (show tR (xT x) < 2 ^ 31 by omega)]
        exact tail h2 ⟨fun o a _ => f2 o a, s2⟩
      | succ n ih =>
        intro r h2 hr f2 s2
        have hrR : r < tR (xT x) := by omega
        have N : cD h2 x := M1.fr (fun o a b => f2 o (by omega)) (fun k _ => by rw [f2 102 (by omega)])
        have fin : ∀ v : Int32, v = nI (if th (xS x) r = true then sH (xS x) else sP (xS x) r) → pv_E (d + 3) 152 P 26 [some (.ref 102), some (.int (nI (r + 1))), none, none, none, none] [] 0 0 g (pv_st h2 120 r v) := fun v hv => by
          refine ih (r + 1) _ (by omega) (fun o a => by rw [st_o a, f2 o a]) (fun e he => ?_)
          by_cases z : e = r
          · subst z; rw [st_at, hv]
          · rw [st_k z]; exact s2 e (by omega)
        rw [z152_26]
        simp only [z152_27, z152_28, z152_31, z152_34, z152_35, z152_38, z152_39, z152_40, z152_43, z152_44, z152_45, z152_48, z152_49, z152_52, z152_53, z152_54, z152_57, z152_58, z152_61, z152_62, z152_65, pv_catN, pv_cat1, pv_cat2, pv_cat3, pv_catL, Option.toList, List.nil_append, List.cons_append, List.append_nil, pv_rfS, pn_i, pn_r, pn_n, pn_o, true_and, and_true, Nat.le_refl, and_self, true_implies, false_implies, not_true_eq_false, not_false_eq_true, pv_b0, pv_b01, pv_bn0, pv_b1, Bool.false_eq_true, Bool.true_eq_false, Bool.not_false, Bool.not_true, pv_bT, pv_bF, eq_self, G.o, N.M.R, nI_le' (show tR (xT x) < 2 ^ 31 by omega) (show r < 2 ^ 31 by omega), show (tR (xT x) ≤ r) = False from eq_false (by omega), G.r28, G.t120, G.r12, G.t110, G.r11, G.t109, vp_nI (show r < 8 by omega) (show 8 < 2 ^ 31 by decide), vp_nI (show r < 32 by omega) (show 32 < 2 ^ 31 by decide), nI_clamp (show r < 2 ^ 31 by omega), N.M.D r hrR, N.M.P r hrR, N.M.H, nI_1]
        refine br (fun c => ?_) (fun c => ?_)
        · refine fin _ ?_
          unfold th
          rw [c]
          rfl
        · refine fin _ ?_
          unfold th
          rw [c]
          rfl
    simp only [z152_24, z152_25, pv_catN, pv_cat1, pv_cat2, pv_cat3, pv_catL, Option.toList, List.nil_append, List.cons_append, List.append_nil, pv_rfS, pn_i, pn_r, pn_n, pn_o, true_and, and_true, Nat.le_refl, and_self, true_implies, false_implies, not_true_eq_false, not_false_eq_true, pv_b0, pv_b01, pv_bn0, pv_b1, Bool.false_eq_true, Bool.true_eq_false, Bool.not_false, Bool.not_true, pv_bT, pv_bF, eq_self]
    exact loop (tR (xT x)) 0 h1 (Nat.zero_add _) (fun _ _ => rfl) (fun e he => absurd he (Nat.not_lt_zero e))
