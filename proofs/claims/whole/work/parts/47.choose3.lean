/-! the class's planner: one unit's turn -/
theorem r88 {g : PvG} {rt tt : Nat} {q : Nat → Nat} (G : gC g rt tt q) {j : Nat} (h : j < 3) : pv_rf g 88 j = some (89 + j) := by
  rcases (by omega : j = 0 ∨ j = 1 ∨ j = 2) with rfl | rfl | rfl
  · exact G.r88_0
  · exact G.r88_1
  · exact G.r88_2
theorem r92 {g : PvG} {rt tt : Nat} {q : Nat → Nat} (G : gC g rt tt q) {j : Nat} (h : j < 4) : pv_rf g 92 j = some (93 + j) := by
  rcases (by omega : j = 0 ∨ j = 1 ∨ j = 2 ∨ j = 3) with rfl | rfl | rfl | rfl
  · exact G.r92_0
  · exact G.r92_1
  · exact G.r92_2
  · exact G.r92_3
theorem t89 {g : PvG} {rt tt : Nat} {q : Nat → Nat} (G : gC g rt tt q) {j : Nat} (h : j < 3) : pv_tg g (89 + j) = (100, 5) := by
  rcases (by omega : j = 0 ∨ j = 1 ∨ j = 2) with rfl | rfl | rfl
  · exact G.t89
  · exact G.t90
  · exact G.t91
theorem t93 {g : PvG} {rt tt : Nat} {q : Nat → Nat} (G : gC g rt tt q) {j : Nat} (h : j < 4) : pv_tg g (93 + j) = (100, 4) := by
  rcases (by omega : j = 0 ∨ j = 1 ∨ j = 2 ∨ j = 3) with rfl | rfl | rfl | rfl
  · exact G.t93
  · exact G.t94
  · exact G.t95
  · exact G.t96
set_option maxHeartbeats 4000000 in
theorem m14_cons {g : PvG} {rt tt : Nat} {q : Nat → Nat} {x : SX} (G : gC g rt tt q) (r3 : pv_rf g 84 3 = some 79) (O : okX x) (hc4 : (rp (xS x) (tR (xT x))).length ≤ 4) {n ρ : Nat} {l : List Nat} (ih : S14 g x n l) : S14 g x n (ρ :: l) := by
  intro d D p φ ψ δ δ0 sp row lft load b h P dd K Q E B hb hs hP
  obtain ⟨q1, q2, q3, q4, q5, q6, q7, q8, q9, q10⟩ := Q
  have hl := pLim_le O.S D
  have hF := O.F
  have hH5 := O.S.2.2.1
  have hD2 : D ≤ 2 := by omega
  have hlen : p.length + (l.length + 1) = (rp (xS x) (tR (xT x))).length := by rw [q3, List.length_append]; rfl
  have hnd := rp_nodup (xS x) (tR (xT x))
  rw [q3, List.nodup_append] at hnd
  have hρl : ρ ∉ l := (List.nodup_cons.mp hnd.2.1).1
  have hρp : ρ ∉ p := fun z => hnd.2.2 ρ z ρ (List.mem_cons_self ..) rfl
  have hr2 : rp (xS x) (tR (xT x)) = (p ++ [ρ]) ++ l := by rw [q3]; simp
  obtain ⟨hψρ, hδρ⟩ := q4 ρ (List.mem_cons_self ..)
  have h5ρ := q5 ρ (by simp)
  have hHl := pH_le O.T O.S (D := D) (ψ := ψ) (δ := δ) q3
  have hgu : (rp (xS x) (tR (xT x)))[p.length]? = some ρ := by rw [q3]; simp
  obtain ⟨u1, u2, u3, u4⟩ := K.1.2 _ ρ hgu
  have hW : gW (xT x) (xS x) ρ ≤ 72 := O.W _
  have hCl : sp + ls (tCost (xT x) (xS x) D φ ψ) p ≤ 500 := by omega
  generalize hcc : (rp (xS x) (tR (xT x))).length = c at *
  have hm : D * c ≤ 2 * 4 := Nat.mul_le_mul hD2 hc4
  have hdc : D * c + c ≤ d * c := by
    rw [← Nat.succ_mul]
    exact Nat.mul_le_mul (by omega) (Nat.le_refl c)
  have hdm : d * c ≤ 3 * 4 := Nat.mul_le_mul q2 hc4
  have hp4 : p.length < 4 := by omega
  have hlt12 : D * c + p.length < 12 := by omega
  have hlen2 : (p ++ [ρ]).length = p.length + 1 := by simp
  refine m14_head G B hb (by omega) (by omega) (fun hno => ?_) (fun hgo => ?_)
  · have := enF_no (pP_no n) (D := D) (φ := φ) (sp := sp) (row := row) (ρ :: l) p ψ δ q3 (fun a ha => (q4 a ha).1) hno
    rw [this] at hP
    exact hP h FR.rf B
  -- the weight, the floors: from pc 173 on
  have loop : ∀ m to b1 (h1 : PvH) (w12 w13 : Option Value), ¬ ψ ρ < sH (xS x) + D → to + m = tF (xT x) → ψ ρ ≤ to → pBk b1 → FR h h1 (D * c + p.length) → hB h1 (xT x) (xS x) b1 → (∀ h', FR h h' (D * c + p.length) → hB h' (xT x) (xS x) (fob (fun u b => enF (xT x) (xS x) D (pLf (xT x) (xS x) n D φ sp row) l (updN ψ ρ u) (updN δ ρ (dUp (sH (xS x) + D) u (δ ρ))) b) m to b1) → P none g h') → pv_E (dd + (n * c + l.length) + 2) 14 P 173 [some (.ref 84), some (.int (nI (D * c + p.length))), some (.int (nI (pH (xT x) (xS x) D p (ρ :: l) ψ δ))), some (.int (nI (sp + ls (tCost (xT x) (xS x) D φ ψ) p))), some (.int (nI c)), some (.int (nI D)), some (.int (nI p.length)), some (.int (nI (ψ ρ))), some (.int (nI (δ ρ))), some (.int (nI (sH (xS x) + D))), some (.int (nI (gW (xT x) (xS x) ρ))), some (.int (nI to)), w12, w13] [] 0 0 g h1 := by
    intro m
    induction m with
    | zero =>
      intro to b1 h1 w12 w13 hal hto hge hbk F1 B1 hQ
      have hto : to = tF (xT x) := hto
      have e4 : h1 84 4 = nI (tF (xT x)) := by rw [F1.2.1 4 (by omega)]; exact K.2.2.2.1
      rw [z14_173]
      simp only [z14_175, z14_176, z14_179, z14_372, pv_catN, pv_cat1, pv_cat2, pv_cat3, pv_catL, Option.toList, List.nil_append, List.cons_append, List.append_nil, pv_rfS, pn_i, pn_r, pn_n, pn_o, true_and, and_true, Nat.le_refl, and_self, true_implies, false_implies, not_true_eq_false, not_false_eq_true, pv_b0, pv_b01, pv_bn0, pv_b1, Bool.false_eq_true, Bool.true_eq_false, Bool.not_false, Bool.not_true, pv_bT, pv_bF, eq_self, G.o84, e4, nI_le' (show tF (xT x) < 2 ^ 31 by omega) (show to < 2 ^ 31 by omega), show (tF (xT x) ≤ to) = True from eq_true (by omega)]
      exact hQ h1 F1 B1
    | succ m ihm =>
      intro to b1 h1 w12 w13 hal hto hge hbk F1 B1 hQ
      have htF : to < tF (xT x) := by omega
      have K1 := K.fr (by omega) F1.1 F1.2.1
      have E1 := E.fr (by omega) (by rw [hcc]; exact F1)
      obtain ⟨k1, k2, k3, k4, k5, k6⟩ := E1
      have hBt := O.T.2.2.2.2 to htF
      have hLt := q9 to htF
      have hml : (to - ψ ρ) * gW (xT x) (xS x) ρ ≤ 4 * 72 := Nat.mul_le_mul (by omega) hW
      have es : nI to - nI (ψ ρ) = nI (to - ψ ρ) := pk_sub hge
      have vto := vp_nI (show to < 5 by omega) (show 5 < 2 ^ 31 by decide)
      have cto := nI_clamp (show to < 2 ^ 31 by omega)
      have vD := vp_nI (show D < 3 by omega) (show 3 < 2 ^ 31 by decide)
      have cD := nI_clamp (show D < 2 ^ 31 by omega)
      have hfob : fob (fun u b => enF (xT x) (xS x) D (pLf (xT x) (xS x) n D φ sp row) l (updN ψ ρ u) (updN δ ρ (dUp (sH (xS x) + D) u (δ ρ))) b) (m + 1) to b1 = fob (fun u b => enF (xT x) (xS x) D (pLf (xT x) (xS x) n D φ sp row) l (updN ψ ρ u) (updN δ ρ (dUp (sH (xS x) + D) u (δ ρ))) b) m (to + 1) (enF (xT x) (xS x) D (pLf (xT x) (xS x) n D φ sp row) l (updN ψ ρ to) (updN δ ρ (dUp (sH (xS x) + D) to (δ ρ))) b1) := rfl
      have e0 : updN ψ ρ to ρ = to := by unfold updN; rw [if_pos rfl]
      have eC : ls (tCost (xT x) (xS x) D φ (updN ψ ρ to)) p = ls (tCost (xT x) (xS x) D φ ψ) p := ls_congr (fun a ha => by
        have n1 : a ≠ ρ := fun z => hρp (z ▸ ha)
        unfold tCost updN
        rw [if_neg n1])
      have eL : ∀ f, ls (tLoad (xT x) (xS x) D φ (updN ψ ρ to) f) p = ls (tLoad (xT x) (xS x) D φ ψ f) p := fun f => ls_congr (fun a ha => by
        have n1 : a ≠ ρ := fun z => hρp (z ▸ ha)
        unfold tLoad updN
        rw [if_neg n1])
      have tCρ : tCost (xT x) (xS x) D φ (updN ψ ρ to) ρ = (to - ψ ρ) * gW (xT x) (xS x) ρ := by
        unfold tCost
        rw [if_neg (by omega), e0, hψρ]
      have tLρ : ∀ f, tLoad (xT x) (xS x) D φ (updN ψ ρ to) f ρ = if to = f then gW (xT x) (xS x) ρ else 0 := fun f => by
        unfold tLoad
        rw [if_neg (by omega), e0]
      -- what cannot be
      have bad : ((pLim (xS x) D < ls (tCost (xT x) (xS x) D φ ψ) p + (to - ψ ρ) * gW (xT x) (xS x) ρ) ∨ tB (xT x) to < load to + gW (xT x) (xS x) ρ) → ∀ w12 w13 : Option Value, pv_E (dd + (n * c + l.length) + 2) 14 P 173 [some (.ref 84), some (.int (nI (D * c + p.length))), some (.int (nI (pH (xT x) (xS x) D p (ρ :: l) ψ δ))), some (.int (nI (sp + ls (tCost (xT x) (xS x) D φ ψ) p))), some (.int (nI c)), some (.int (nI D)), some (.int (nI p.length)), some (.int (nI (ψ ρ))), some (.int (nI (δ ρ))), some (.int (nI (sH (xS x) + D))), some (.int (nI (gW (xT x) (xS x) ρ))), some (.int (nI (to + 1))), w12, w13] [] 0 0 g h1 := fun hbad w12 w13 => by
        have hid : enF (xT x) (xS x) D (pLf (xT x) (xS x) n D φ sp row) l (updN ψ ρ to) (updN δ ρ (dUp (sH (xS x) + D) to (δ ρ))) b1 = b1 := by
          refine enF_id l _ _ (fun ψ' δ' hψ' => ?_)
          have hno : pOk (xT x) (xS x) D φ ψ' = false := by
            have a1 : ls (tCost (xT x) (xS x) D φ ψ') p = ls (tCost (xT x) (xS x) D φ (updN ψ ρ to)) p := ls_congr (fun a ha => by
              have n1 : a ∉ l := fun z => hnd.2.2 a ha a (List.mem_cons_of_mem _ z) rfl
              unfold tCost
              rw [hψ' a n1])
            have a2 : ∀ f, ls (tLoad (xT x) (xS x) D φ ψ' f) p = ls (tLoad (xT x) (xS x) D φ (updN ψ ρ to) f) p := fun f => ls_congr (fun a ha => by
              have n1 : a ∉ l := fun z => hnd.2.2 a ha a (List.mem_cons_of_mem _ z) rfl
              unfold tLoad
              rw [hψ' a n1])
            have a3 : tCost (xT x) (xS x) D φ ψ' ρ = (to - ψ ρ) * gW (xT x) (xS x) ρ := by
              rw [← tCρ]
              unfold tCost
              rw [hψ' ρ hρl]
            have a4 : tLoad (xT x) (xS x) D φ ψ' to ρ = gW (xT x) (xS x) ρ := by
              have := tLρ to
              rw [if_pos rfl] at this
              rw [← this]
              unfold tLoad
              rw [hψ' ρ hρl]
            unfold pOk
            rw [Bool.and_eq_false_iff]
            rcases hbad with z | z
            · left
              apply decide_eq_false
              unfold pCost
              rw [q3, ls_app, ls_cons, a1, eC, a3]
              omega
            · right
              cases hfit : pFit (xT x) (xS x) D φ ψ' (tF (xT x)) with
              | false => rfl
              | true =>
                have := pFit_t.mp hfit to htF
                unfold pLoad at this
                rw [q3, ls_app, ls_cons, a2, eL, a4, ← q8] at this
                omega
          unfold pLf
          rw [hno]
          rfl
        rw [hfob, hid] at hQ
        exact ihm (to + 1) b1 h1 w12 w13 hal (by omega) (by omega) hbk F1 B1 hQ
      have e4 : h1 84 4 = nI (tF (xT x)) := K1.2.2.2.1
      rw [z14_173]
      simp only [z14_175, z14_176, z14_179, z14_182, z14_184, z14_186, z14_187, z14_189, z14_190, z14_192, z14_194, z14_195, z14_198, z14_200, z14_201, z14_204, z14_205, z14_208, z14_210, z14_211, z14_213, z14_214, z14_216, z14_217, z14_218, z14_221, z14_223, z14_224, z14_366, z14_369, pv_catN, pv_cat1, pv_cat2, pv_cat3, pv_catL, Option.toList, List.nil_append, List.cons_append, List.append_nil, pv_rfS, pn_i, pn_r, pn_n, pn_o, true_and, and_true, Nat.le_refl, and_self, true_implies, false_implies, not_true_eq_false, not_false_eq_true, pv_b0, pv_b01, pv_bn0, pv_b1, Bool.false_eq_true, Bool.true_eq_false, Bool.not_false, Bool.not_true, pv_bT, pv_bF, eq_self, G.o84, e4, nI_le' (show tF (xT x) < 2 ^ 31 by omega) (show to < 2 ^ 31 by omega), show (tF (xT x) ≤ to) = False from eq_false (by omega), es, pk_mul, G.r84_8, G.t87, G.r84_9, G.t88, r88 G (show D < 3 by omega), t89 G (show D < 3 by omega), G.r84_7, G.t86, vD, cD, vto, cto, k1, k3 to (by omega), K1.2.2.1 to htF, nI_add, nI_lt' (show lft < 2 ^ 31 by omega) (show (to - ψ ρ) * gW (xT x) (xS x) ρ < 2 ^ 31 by omega), nI_lt' (show tB (xT x) to < 2 ^ 31 by omega) (show load to + gW (xT x) (xS x) ρ < 2 ^ 31 by omega), true_or, or_true, nI_1]
      refine ⟨fun c1 => bad (by omega) _ _, fun c1 => ⟨fun c2 => bad (Or.inr c2) _ _, fun c2 => ?_⟩⟩
      -- this floor can be
      generalize hk : dUp (sH (xS x) + D) to (δ ρ) = k' at *
      have hk3 : k' ≤ D + 1 := by
        rw [← hk]
        unfold dUp
        split <;> omega
      have vT := vp_nI hlt12 (show 12 < 2 ^ 31 by decide)
      have cT := nI_clamp (show D * c + p.length < 2 ^ 31 by omega)
      have vp := vp_nI hp4 (show 4 < 2 ^ 31 by decide)
      have cp := nI_clamp (show p.length < 2 ^ 31 by omega)
      -- from pc 284 on
      have at284 : ∀ w13 : Option Value, pv_E (dd + (n * c + l.length) + 2) 14 P 284 [some (.ref 84), some (.int (nI (D * c + p.length))), some (.int (nI (pH (xT x) (xS x) D p (ρ :: l) ψ δ))), some (.int (nI (sp + ls (tCost (xT x) (xS x) D φ ψ) p))), some (.int (nI c)), some (.int (nI D)), some (.int (nI p.length)), some (.int (nI (ψ ρ))), some (.int (nI (δ ρ))), some (.int (nI (sH (xS x) + D))), some (.int (nI (gW (xT x) (xS x) ρ))), some (.int (nI to)), some (.int (nI ((to - ψ ρ) * gW (xT x) (xS x) ρ))), w13] [.int (nI (if to < sH (xS x) + (D + 1) then 0 else wor (xT x) (xS x) ρ k'))] 0 0 g (pv_st (pv_st h1 97 (D * c + p.length) (nI to)) 98 (D * c + p.length) (nI k')) := by
        intro w13
        have hgo2 := pH_go (t := xT x) (s := xS x) (D := D) (u := to) (k := k') (p := p) (l := l) (ψ := ψ) (δ := δ) hal hρp hρl
        have hw1 := wor_72 O.T O.S ρ (δ ρ)
        have hw2 := wor_72 O.T O.S ρ k'
        have hw3 : wor (xT x) (xS x) ρ (δ ρ) ≤ pH (xT x) (xS x) D p (ρ :: l) ψ δ := by
          unfold pH
          rw [ls_cons, if_neg hal]
          omega
        have eH1 : nI (pH (xT x) (xS x) D p (ρ :: l) ψ δ) - nI (wor (xT x) (xS x) ρ (δ ρ)) = nI (pH (xT x) (xS x) D p (ρ :: l) ψ δ - wor (xT x) (xS x) ρ (δ ρ)) := pk_sub hw3
        have eH2 : pH (xT x) (xS x) D p (ρ :: l) ψ δ - wor (xT x) (xS x) ρ (δ ρ) + (if to < sH (xS x) + (D + 1) then 0 else wor (xT x) (xS x) ρ k') = pH (xT x) (xS x) D (p ++ [ρ]) l (updN ψ ρ to) (updN δ ρ k') := by omega
        have eC2 : sp + ls (tCost (xT x) (xS x) D φ ψ) p + (to - ψ ρ) * gW (xT x) (xS x) ρ = sp + ls (tCost (xT x) (xS x) D φ (updN ψ ρ to)) (p ++ [ρ]) := by
          rw [ls_app, ls_one, eC, tCρ]
          omega
        have eT : D * c + p.length + 1 = D * c + (p ++ [ρ]).length := by rw [hlen2]; omega
        have esl : nI lft - nI ((to - ψ ρ) * gW (xT x) (xS x) ρ) = nI (lft - (to - ψ ρ) * gW (xT x) (xS x) ρ) := pk_sub (by omega)
        have n1 : ∀ (k : Nat) (v w : Int32), pv_st (pv_st h1 97 (D * c + p.length) v) 98 (D * c + p.length) w 87 k = h1 87 k := fun k v w => by rw [st_o (by omega), st_o (by omega)]
        have n2 : ∀ (k : Nat) (v w : Int32), pv_st (pv_st h1 97 (D * c + p.length) v) 98 (D * c + p.length) w (89 + D) k = h1 (89 + D) k := fun k v w => by rw [st_o (by omega), st_o (by omega)]
        have n3 : ∀ (k j : Nat) (v w y : Int32), pv_st (pv_st (pv_st h1 97 (D * c + p.length) v) 98 (D * c + p.length) w) 87 j y (89 + D) k = h1 (89 + D) k := fun k j v w y => by rw [st_o (by omega), st_o (by omega), st_o (by omega)]
        have n4 : ∀ (k j i : Nat) (v w y z : Int32), pv_st (pv_st (pv_st (pv_st h1 97 (D * c + p.length) v) 98 (D * c + p.length) w) 87 j y) (89 + D) i z (93 + p.length) k = h1 (93 + p.length) k := fun k j i v w y z => by rw [st_o (by omega), st_o (by omega), st_o (by omega), st_o (by omega)]
        simp only [z14_284, z14_286, z14_287, z14_290, z14_292, z14_293, z14_294, z14_296, z14_297, z14_298, z14_299, z14_302, z14_304, z14_305, z14_307, z14_308, z14_309, z14_311, z14_312, z14_313, z14_314, z14_315, z14_316, z14_317, z14_318, z14_319, z14_322, z14_324, z14_325, z14_327, z14_328, z14_329, z14_331, z14_332, z14_333, z14_335, pv_catN, pv_cat1, pv_cat2, pv_cat3, pv_catL, Option.toList, List.nil_append, List.cons_append, List.append_nil, pv_rfS, pn_i, pn_r, pn_n, pn_o, true_and, and_true, Nat.le_refl, and_self, true_implies, false_implies, not_true_eq_false, not_false_eq_true, pv_b0, pv_b01, pv_bn0, pv_b1, Bool.false_eq_true, Bool.true_eq_false, Bool.not_false, Bool.not_true, pv_bT, pv_bF, eq_self, G.o84, G.r84_8, G.t87, G.r84_9, G.t88, r88 G (show D < 3 by omega), t89 G (show D < 3 by omega), G.r84_10, G.t92, r92 G hp4, t93 G hp4, vD, cD, vto, cto, vp, cp, n1, n2, n3, n4, k1, k3 to (by omega), esl, nI_add, K1.2.1 _ ρ hgu (δ ρ) (by omega), vp_nI (show δ ρ < 4 by omega) (show 4 < 2 ^ 31 by decide), nI_clamp (show δ ρ < 2 ^ 31 by omega), eH1, eH2, eC2, eT, true_or, or_true, nI_1]
        rw [z14_336 (by simp [pv_cat, Value.category]) (by decide)]
        have hq6' : ∀ a ∈ p, updN ψ ρ to a = ψ a ∧ updN δ ρ k' a = δ a := fun a ha => by
          have n1 : a ≠ ρ := fun z => hρp (z ▸ ha)
          unfold updN
          rw [if_neg n1, if_neg n1]
          exact ⟨rfl, rfl⟩
        have hq6l : ∀ a ∈ l, updN ψ ρ to a = ψ a ∧ updN δ ρ k' a = δ a := fun a ha => by
          have n1 : a ≠ ρ := fun z => hρl (z ▸ ha)
          unfold updN
          rw [if_neg n1, if_neg n1]
          exact ⟨rfl, rfl⟩
        have e0k : updN δ ρ k' ρ = k' := by unfold updN; rw [if_pos rfl]
        have := ih d D (p ++ [ρ]) φ (updN ψ ρ to) (updN δ ρ k') δ0 sp row (lft - (to - ψ ρ) * gW (xT x) (xS x) ρ) (updN load to (load to + gW (xT x) (xS x) ρ)) b1 (pv_st (pv_st (pv_st (pv_st h1 97 (D * c + p.length) (nI to)) 98 (D * c + p.length) (nI k')) 87 D (nI (lft - (to - ψ ρ) * gW (xT x) (xS x) ρ))) (89 + D) to (nI (load to + gW (xT x) (xS x) ρ)))
        rw [hcc] at this
        refine this _ dd ?_ ⟨q1, q2, hr2, fun a ha => ?_, fun a ha => ?_, fun a ha => ?_, ?_, fun f => ?_, fun f hf => ?_, fun hz a ha => ?_⟩ ⟨?_, fun j a b => ?_, fun f hf => ?_, fun j f a b e => ?_, fun i a hi => ?_, fun hz i a hi => ?_⟩ (B1.fr ?_ ?_) hbk hs (fun h2 F2 B2 => ?_)
        · refine K1.fr (by omega) (fun o a1 a2 a3 a4 a5 a6 a7 a8 => ?_) (fun j hj => ?_)
          · rw [st_o (by omega), st_o a3, st_o a8, st_o a7]
          · rw [st_o (by omega), st_o (by omega), st_o (by omega), st_o (by omega)]
        · rw [(hq6l a ha).1, (hq6l a ha).2]
          exact q4 a (List.mem_cons_of_mem _ ha)
        · rcases List.mem_append.mp ha with z | z
          · rcases List.mem_append.mp z with y | y
            · rw [(hq6' a y).1]; exact q5 a (by simp [y])
            · rw [List.mem_singleton.mp y, e0]; exact ⟨h5ρ.1, h5ρ.2.1, htF⟩
          · rw [(hq6l a z).1]; exact q5 a (by simp [z])
        · rcases List.mem_append.mp ha with y | y
          · rw [(hq6' a y).1, (hq6' a y).2]; exact q6 a y
          · rw [List.mem_singleton.mp y, e0, e0k]
            exact ⟨hk3, fun z => absurd z (by omega)⟩
        · rw [ls_app, ls_one, eC, tCρ]
          omega
        · rw [ls_app, ls_one, eL, tLρ, ← q8]
          unfold updN
          by_cases z : f = to
          · rw [if_pos z, if_pos z.symm, z]
          · rw [if_neg z, if_neg (fun y => z y.symm), Nat.add_zero]
        · unfold updN
          by_cases z : f = to
          · rw [if_pos z, z]; omega
          · rw [if_neg z]; exact q9 f hf
        · rw [show (p ++ [ρ]) ++ l = p ++ (ρ :: l) by simp] at ha
          exact q10 hz a ha
        · rw [st_o (by omega), st_at]
        · rw [st_o (by omega), st_k (by omega), st_o (by omega), st_o (by omega)]; exact k2 j a b
        · unfold updN
          by_cases z : f = to
          · rw [if_pos z, z, st_at]
          · rw [if_neg z, st_k z, st_o (by omega), st_o (by omega), st_o (by omega)]; exact k3 f hf
        · rw [st_o (by omega), st_o (by omega), st_o (by omega), st_o (by omega)]; exact k4 j f a b e
        · rw [hcc, st_o (show (97 : Nat) ≠ 89 + D by omega), st_o (show (97 : Nat) ≠ 87 by omega), st_o (show (97 : Nat) ≠ 98 by omega), st_o (show (98 : Nat) ≠ 89 + D by omega), st_o (show (98 : Nat) ≠ 87 by omega)]
          by_cases z : i < p.length
          · rw [List.getElem?_append_left z] at hi
            have ha : a ∈ p := List.mem_of_getElem? hi
            rw [st_k (by omega), st_k (by omega), st_o (by omega), (hq6' a ha).1, (hq6' a ha).2]
            have := k5 i a hi
            rw [hcc] at this
            exact this
          · have hi2 := hi
            rw [List.getElem?_append_right (by omega)] at hi2
            have hlt : i - p.length < 1 := (List.getElem?_eq_some_iff.mp hi2).1
            obtain rfl : i = p.length := by omega
            rw [Nat.sub_self] at hi2
            cases hi2
            rw [st_at, st_at, e0, e0k]
            exact ⟨rfl, fun _ => rfl⟩
        · have hic := (List.getElem?_eq_some_iff.mp hi).1
          have hmD := mulD (c := c) hz
          rw [hcc, st_o (show (97 : Nat) ≠ 89 + D by omega), st_o (show (97 : Nat) ≠ 87 by omega), st_o (show (97 : Nat) ≠ 98 by omega), st_o (show (98 : Nat) ≠ 89 + D by omega), st_o (show (98 : Nat) ≠ 87 by omega), st_k (by omega), st_k (by omega), st_k (by omega), st_o (show (98 : Nat) ≠ 97 by omega)]
          have := k6 hz i a hi
          rw [hcc] at this
          exact this
        · rw [st_o (by omega), st_o (by omega), st_o (by omega), st_o (by omega)]
        · rw [st_o (by omega), st_o (by omega), st_o (by omega), st_o (by omega)]
        · -- back: what was taken is given back
          have e87 : h2 87 D = nI (lft - (to - ψ ρ) * gW (xT x) (xS x) ρ) := by rw [F2.2.2.1 D (by omega), st_o (by omega), st_at]
          have e89 : h2 (89 + D) to = nI (load to + gW (xT x) (xS x) ρ) := by rw [F2.2.2.2.1 D to (by omega) (by omega), st_at]
          have g1 : lft - (to - ψ ρ) * gW (xT x) (xS x) ρ + (to - ψ ρ) * gW (xT x) (xS x) ρ = lft := by omega
          have g2 : nI (load to + gW (xT x) (xS x) ρ) - nI (gW (xT x) (xS x) ρ) = nI (load to) := by
            rw [show nI (load to + gW (xT x) (xS x) ρ) - nI (gW (xT x) (xS x) ρ) = nI (load to + gW (xT x) (xS x) ρ - gW (xT x) (xS x) ρ) from pk_sub (by omega), Nat.add_sub_cancel]
          have n5 : ∀ v : Int32, pv_st h2 87 D v (89 + D) to = h2 (89 + D) to := fun v => by rw [st_o (by omega)]
          simp only [z14_339, z14_340, z14_343, z14_345, z14_346, z14_347, z14_349, z14_350, z14_351, z14_352, z14_355, z14_357, z14_358, z14_360, z14_361, z14_362, z14_364, z14_365, z14_366, z14_369, pv_catN, pv_cat1, pv_cat2, pv_cat3, pv_catL, Option.toList, List.nil_append, List.cons_append, List.append_nil, pv_rfS, pn_i, pn_r, pn_n, pn_o, true_and, and_true, Nat.le_refl, and_self, true_implies, false_implies, not_true_eq_false, not_false_eq_true, pv_b0, pv_b01, pv_bn0, pv_b1, Bool.false_eq_true, Bool.true_eq_false, Bool.not_false, Bool.not_true, pv_bT, pv_bF, eq_self, G.o84, G.r84_8, G.t87, G.r84_9, G.t88, r88 G (show D < 3 by omega), t89 G (show D < 3 by omega), vD, cD, vto, cto, e87, n5, e89, nI_add, g1, g2, true_or, or_true, nI_1]
          rw [hfob] at hQ
          have hbk2 := enF_bk O.T O.S (D := D) (φ := φ) (row := row) hs l (updN ψ ρ to) (updN δ ρ k') hbk
          refine ihm (to + 1) _ _ _ _ hal (by omega) (by omega) hbk2 ?_ (B2.fr ?_ ?_) hQ
          · refine ⟨fun o a1 a2 a3 a4 a5 a6 a7 a8 => ?_, fun j hj => ?_, fun j hj => ?_, fun j f hj hf => ?_, fun j hj => ?_⟩
            · rw [st_o (by omega), st_o a3, F2.1 o a1 a2 a3 a4 a5 a6 a7 a8, st_o (by omega), st_o a3, st_o a8, st_o a7, F1.1 o a1 a2 a3 a4 a5 a6 a7 a8]
            · rw [st_o (by omega), st_o (by omega), F2.2.1 j hj, st_o (by omega), st_o (by omega), st_o (by omega), st_o (by omega), F1.2.1 j hj]
            · rw [st_o (by omega)]
              by_cases z : j = D
              · rw [z, st_at]
                rw [← F1.2.2.1 D (by omega)]
                exact k1.symm
              · rw [st_k z, F2.2.2.1 j hj, st_o (by omega), st_k z, st_o (by omega), st_o (by omega), F1.2.2.1 j hj]
            · by_cases z : j = D
              · by_cases y : f = to
                · rw [z, y, st_at, ← F1.2.2.2.1 D to (by omega) (by omega)]
                  exact (k3 to (by omega)).symm
                · rw [z, st_k y, st_o (by omega), F2.2.2.2.1 D f (by omega) hf, st_k y, st_o (by omega), st_o (by omega), st_o (by omega), F1.2.2.2.1 D f (by omega) hf]
              · rw [st_o (by omega), st_o (by omega), F2.2.2.2.1 j f hj hf, st_o (by omega), st_o (by omega), st_o (by omega), st_o (by omega), F1.2.2.2.1 j f hj hf]
            · have := F2.2.2.2.2 j (by omega)
              rw [st_o (show (97 : Nat) ≠ 89 + D by omega), st_o (show (97 : Nat) ≠ 87 by omega), st_o (show (98 : Nat) ≠ 89 + D by omega), st_o (show (98 : Nat) ≠ 87 by omega), this.1, this.2, st_o (show (97 : Nat) ≠ 89 + D by omega), st_o (show (97 : Nat) ≠ 87 by omega), st_o (show (97 : Nat) ≠ 98 by omega), st_k (by omega), st_o (show (98 : Nat) ≠ 89 + D by omega), st_o (show (98 : Nat) ≠ 87 by omega), st_k (by omega), st_o (show (98 : Nat) ≠ 97 by omega)]
              exact F1.2.2.2.2 j hj
          · rw [st_o (by omega), st_o (by omega)]
          · rw [st_o (by omega), st_o (by omega)]
      -- from pc 258 on
      have at258 : pv_E (dd + (n * c + l.length) + 2) 14 P 258 [some (.ref 84), some (.int (nI (D * c + p.length))), some (.int (nI (pH (xT x) (xS x) D p (ρ :: l) ψ δ))), some (.int (nI (sp + ls (tCost (xT x) (xS x) D φ ψ) p))), some (.int (nI c)), some (.int (nI D)), some (.int (nI p.length)), some (.int (nI (ψ ρ))), some (.int (nI (δ ρ))), some (.int (nI (sH (xS x) + D))), some (.int (nI (gW (xT x) (xS x) ρ))), some (.int (nI to)), some (.int (nI ((to - ψ ρ) * gW (xT x) (xS x) ρ))), w13] [.int (nI k'), .int (nI (D * c + p.length)), .ref 98] 0 0 g (pv_st h1 97 (D * c + p.length) (nI to)) := by
        have ee : (nI to = nI (sH (xS x) + D)) = (to = sH (xS x) + D) := nI_eq' (by omega) (by omega)
        have n4 : ∀ (k : Nat) (v w : Int32), pv_st (pv_st h1 97 (D * c + p.length) v) 98 (D * c + p.length) w (93 + p.length) k = h1 (93 + p.length) k := fun k v w => by rw [st_o (by omega), st_o (by omega)]
        simp only [z14_258, z14_259, z14_261, z14_263, z14_266, z14_267, z14_270, z14_271, z14_274, z14_276, z14_277, z14_278, z14_281, z14_282, z14_283, pv_catN, pv_cat1, pv_cat2, pv_cat3, pv_catL, Option.toList, List.nil_append, List.cons_append, List.append_nil, pv_rfS, pn_i, pn_r, pn_n, pn_o, true_and, and_true, Nat.le_refl, and_self, true_implies, false_implies, not_true_eq_false, not_false_eq_true, pv_b0, pv_b01, pv_bn0, pv_b1, Bool.false_eq_true, Bool.true_eq_false, Bool.not_false, Bool.not_true, pv_bT, pv_bF, eq_self, G.o84, G.r84_12, G.t98, G.r84_10, G.t92, r92 G hp4, t93 G hp4, vT, cT, vp, cp, ee, st_at, n4, vp_nI (show k' < 4 by omega) (show 4 < 2 ^ 31 by decide), nI_clamp (show k' < 2 ^ 31 by omega), K1.2.1 _ ρ hgu k' (by omega), true_or, or_true]
        refine ⟨fun e => ?_, fun e => ?_⟩
        · have := at284 w13
          rw [if_neg (by omega)] at this
          exact this
        · have := at284 w13
          rw [if_pos (by omega)] at this
          exact this
      have ee1 : (nI to = nI (sH (xS x) + D + 1)) = (to = sH (xS x) + D + 1) := nI_eq' (by omega) (by omega)
      simp only [z14_227, z14_228, z14_231, z14_232, z14_234, z14_235, z14_236, z14_239, z14_240, z14_242, z14_244, z14_245, z14_246, z14_249, z14_251, z14_252, z14_253, z14_256, pv_catN, pv_cat1, pv_cat2, pv_cat3, pv_catL, Option.toList, List.nil_append, List.cons_append, List.append_nil, pv_rfS, pn_i, pn_r, pn_n, pn_o, true_and, and_true, Nat.le_refl, and_self, true_implies, false_implies, not_true_eq_false, not_false_eq_true, pv_b0, pv_b01, pv_bn0, pv_b1, Bool.false_eq_true, Bool.true_eq_false, Bool.not_false, Bool.not_true, pv_bT, pv_bF, eq_self, G.o84, G.r84_11, G.t97, G.r84_12, vT, cT, ee1, nI_1]
      refine ⟨fun e => ?_, fun e => ?_⟩
      · have hk2 : k' = δ ρ := by rw [← hk]; unfold dUp; rw [if_neg e]
        rw [hk2] at at258
        exact at258
      · have hk2 : k' = δ ρ + 1 := by rw [← hk]; unfold dUp; rw [if_pos (Classical.not_not.mp e)]
        rw [hk2] at at258
        exact at258
  -- from pc 123 on
  have at123 : ∀ v8 : Int32, (¬ ψ ρ < sH (xS x) + D → v8 = nI (δ ρ)) → pv_E (dd + (n * c + l.length) + 2) 14 P 123 [some (.ref 84), some (.int (nI (D * c + p.length))), some (.int (nI (pH (xT x) (xS x) D p (ρ :: l) ψ δ))), some (.int (nI (sp + ls (tCost (xT x) (xS x) D φ ψ) p))), some (.int (nI c)), some (.int (nI D)), some (.int (nI p.length)), some (.int (nI (ψ ρ))), some (.int v8), none, none, none, none, none] [] 0 0 g h := by
    intro v8 hv8
    have hen : enF (xT x) (xS x) D (pLf (xT x) (xS x) n D φ sp row) (ρ :: l) ψ δ b = if ψ ρ < sH (xS x) + D then enF (xT x) (xS x) D (pLf (xT x) (xS x) n D φ sp row) l ψ δ b else fob (fun u b => enF (xT x) (xS x) D (pLf (xT x) (xS x) n D φ sp row) l (updN ψ ρ u) (updN δ ρ (dUp (sH (xS x) + D) u (δ ρ))) b) (tF (xT x) - ψ ρ) (ψ ρ) b := rfl
    have e81 : h 81 p.length = nI (gW (xT x) (xS x) ρ) := u2
    simp only [z14_123, z14_124, z14_127, z14_129, z14_130, z14_132, z14_134, z14_136, z14_157, z14_158, z14_161, z14_164, z14_166, z14_167, z14_169, z14_171, pv_catN, pv_cat1, pv_cat2, pv_cat3, pv_catL, Option.toList, List.nil_append, List.cons_append, List.append_nil, pv_rfS, pn_i, pn_r, pn_n, pn_o, true_and, and_true, Nat.le_refl, and_self, true_implies, false_implies, not_true_eq_false, not_false_eq_true, pv_b0, pv_b01, pv_bn0, pv_b1, Bool.false_eq_true, Bool.true_eq_false, Bool.not_false, Bool.not_true, pv_bT, pv_bF, eq_self, G.o84, G.o79, r3, K.2.2.2.2.1, nI_add, nI_le' (show sH (xS x) + D < 2 ^ 31 by omega) (show ψ ρ < 2 ^ 31 by omega), G.r79_2, G.t81, vp_nI (show p.length < 8 by omega) (show 8 < 2 ^ 31 by decide), nI_clamp (show p.length < 2 ^ 31 by omega), e81]
    refine ⟨fun ca => ?_, fun cd => ?_⟩
    · have hal : ¬ ψ ρ < sH (xS x) + D := by omega
      rw [hen, if_neg hal] at hP
      rw [hv8 hal]
      exact loop (tF (xT x) - ψ ρ) (ψ ρ) b h _ _ hal (by omega) (Nat.le_refl _) hb FR.rf B hP
    · have hde : ψ ρ < sH (xS x) + D := by omega
      rw [hen, if_pos hde] at hP
      have eT : D * c + p.length + 1 = D * c + (p ++ [ρ]).length := by rw [hlen2]; omega
      have eH : pH (xT x) (xS x) D p (ρ :: l) ψ δ = pH (xT x) (xS x) D (p ++ [ρ]) l ψ δ := (pH_dead hde).symm
      have tC0 : tCost (xT x) (xS x) D φ ψ ρ = 0 := by unfold tCost; rw [if_pos (by omega)]
      have eC : ls (tCost (xT x) (xS x) D φ ψ) p = ls (tCost (xT x) (xS x) D φ ψ) (p ++ [ρ]) := by rw [ls_app, ls_one, tC0]; rfl
      simp only [z14_139, z14_140, z14_143, z14_144, z14_146, z14_147, z14_148, z14_149, z14_150, z14_151, z14_152, pv_catN, pv_cat1, pv_cat2, pv_cat3, pv_catL, Option.toList, List.nil_append, List.cons_append, List.append_nil, pv_rfS, pn_i, pn_r, pn_n, pn_o, true_and, and_true, Nat.le_refl, and_self, true_implies, false_implies, not_true_eq_false, not_false_eq_true, pv_b0, pv_b01, pv_bn0, pv_b1, Bool.false_eq_true, Bool.true_eq_false, Bool.not_false, Bool.not_true, pv_bT, pv_bF, eq_self, G.o84, G.r84_11, G.t97, vp_nI hlt12 (show 12 < 2 ^ 31 by decide), nI_clamp (show D * c + p.length < 2 ^ 31 by omega), nI_1, eT, eH]
      rw [z14_153 (by simp [pv_cat, Value.category]) (by decide), eC]
      obtain ⟨k1, k2, k3, k4, k5, k6⟩ := E
      have := ih d D (p ++ [ρ]) φ ψ δ δ0 sp row lft load b (pv_st h 97 (D * c + p.length) (nI (ψ ρ)))
      rw [hcc] at this
      refine this _ dd ?_ ⟨q1, q2, hr2, fun a ha => q4 a (List.mem_cons_of_mem _ ha), fun a ha => q5 a (by simpa using ha), fun a ha => ?_, ?_, fun f => ?_, q9, fun hz a ha => q10 hz a (by simpa using ha)⟩ ⟨?_, fun j a b => ?_, fun f hf => ?_, fun j f a b e => ?_, fun i a hi => ?_, fun hz i a hi => ?_⟩ (B.fr ?_ ?_) hb hs (fun h2 F2 B2 => ?_)
      · exact K.fr (by omega) (fun o _ _ _ _ _ _ a7 _ => st_o a7) (fun j _ => by rw [st_o (by omega)])
      · rcases List.mem_append.mp ha with y | y
        · exact q6 a y
        · rw [List.mem_singleton.mp y, hδρ, hψρ]
          exact ⟨by omega, fun _ => rfl⟩
      · rw [← eC]; exact q7
      · have tL0 : tLoad (xT x) (xS x) D φ ψ f ρ = 0 := by unfold tLoad; rw [if_pos (by omega)]
        rw [ls_app, ls_one, tL0, q8 f]
        rfl
      · rw [st_o (by omega)]; exact k1
      · rw [st_o (by omega)]; exact k2 j a b
      · rw [st_o (by omega)]; exact k3 f hf
      · rw [st_o (by omega)]; exact k4 j f a b e
      · rw [hcc, st_o (show (98 : Nat) ≠ 97 by omega)]
        by_cases z : i < p.length
        · rw [List.getElem?_append_left z] at hi
          rw [st_k (by omega)]
          have := k5 i a hi
          rw [hcc] at this
          exact this
        · have hi2 := hi
          rw [List.getElem?_append_right (by omega)] at hi2
          have hlt : i - p.length < 1 := (List.getElem?_eq_some_iff.mp hi2).1
          obtain rfl : i = p.length := by omega
          rw [Nat.sub_self] at hi2
          cases hi2
          rw [st_at]
          exact ⟨rfl, fun z => absurd (by omega) z⟩
      · have hic := (List.getElem?_eq_some_iff.mp hi).1
        have hmD := mulD (c := c) hz
        rw [hcc, st_o (show (98 : Nat) ≠ 97 by omega), st_k (by omega), st_k (by omega)]
        have := k6 hz i a hi
        rw [hcc] at this
        exact this
      · rw [st_o (by omega)]
      · rw [st_o (by omega)]
      · simp only [z14_156, pv_catN, pv_cat1, pv_cat2, pv_cat3, pv_catL, Option.toList, List.nil_append, List.cons_append, List.append_nil, pv_rfS, pn_i, pn_r, pn_n, pn_o, true_and, and_true, Nat.le_refl, and_self, true_implies, false_implies, not_true_eq_false, not_false_eq_true, pv_b0, pv_b01, pv_bn0, pv_b1, Bool.false_eq_true, Bool.true_eq_false, Bool.not_false, Bool.not_true, pv_bT, pv_bF, eq_self]
        refine hP h2 ⟨fun o a1 a2 a3 a4 a5 a6 a7 a8 => ?_, fun j hj => ?_, fun j hj => ?_, fun j f hj hf => ?_, fun j hj => ?_⟩ B2
        · rw [F2.1 o a1 a2 a3 a4 a5 a6 a7 a8, st_o a7]
        · rw [F2.2.1 j hj, st_o (by omega)]
        · rw [F2.2.2.1 j hj, st_o (by omega)]
        · rw [F2.2.2.2.1 j f hj hf, st_o (by omega)]
        · have := F2.2.2.2.2 j (by omega)
          rw [this.1, this.2, st_k (by omega), st_o (by omega)]
          exact ⟨rfl, rfl⟩
  -- from pc 25 on
  have c0 : 0 < c := by omega
  have eDiv : nI (D * c + p.length) / nI c = nI D := by
    rw [pk_div (by omega) c0 (by omega)]
    congr 1
    rw [Nat.mul_comm, Nat.mul_add_div c0, Nat.div_eq_of_lt (by omega), Nat.add_zero]
  have eMod : nI (D * c + p.length) - nI D * nI c = nI p.length := by
    rw [pk_mul]
    have := pk_sub (a := D * c + p.length) (b := D * c) (by omega)
    rw [Nat.add_sub_cancel_left] at this
    exact this
  have nz : ¬ nI c = 0 := by
    intro z
    have := (nI_eq' (a := c) (b := 0) (by omega) (by decide)) ▸ z
    omega
  have p12 : ((12 : Int32) ≤ nI (D * c + p.length)) = False := eq_false (by rw [show (12 : Int32) = nI 12 from rfl, nI_le' (by decide) (by omega)]; omega)
  have pos : ((0 : Int32) < nI c) = True := eq_true (by rw [show (0 : Int32) = nI 0 from rfl, nI_lt' (by decide) (by omega)]; exact c0)
  have tl : (nI (d * c) ≤ nI (D * c + p.length)) = False := eq_false (by rw [nI_le' (by omega) (by omega)]; omega)
  have eT : (nI c ≤ nI (D * c + p.length)) = (c ≤ D * c + p.length) := nI_le' (by omega) (by omega)
  have e79 : h 79 0 = nI c := by rw [← hcc]; exact K.1.1
  have e6 : h 84 6 = nI (d * c) := by rw [← hcc]; exact K.2.2.2.2.2
  have vp8 := vp_nI (show p.length < 8 by omega) (show 8 < 2 ^ 31 by decide)
  have cp := nI_clamp (show p.length < 2 ^ 31 by omega)
  by_cases hD0 : D = 0
  · subst hD0
    have cT : (c ≤ 0 * c + p.length) = False := eq_false (by omega)
    have hz := q10 rfl ρ (by simp)
    have e83 : h 83 p.length = nI (ψ ρ) := by rw [hψρ, hz.1]; exact u4
    simp only [z14_25, z14_26, z14_29, z14_32, z14_34, z14_35, z14_36, z14_39, z14_42, z14_43, z14_45, z14_48, z14_50, z14_60, z14_61, z14_63, z14_64, z14_66, z14_67, z14_69, z14_70, z14_72, z14_73, z14_75, z14_78, z14_79, z14_82, z14_85, z14_87, z14_88, z14_100, z14_102, z14_103, z14_105, z14_108, z14_109, z14_121, pv_catN, pv_cat1, pv_cat2, pv_cat3, pv_catL, Option.toList, List.nil_append, List.cons_append, List.append_nil, pv_rfS, pn_i, pn_r, pn_n, pn_o, true_and, and_true, Nat.le_refl, and_self, true_implies, false_implies, not_true_eq_false, not_false_eq_true, pv_b0, pv_b01, pv_bn0, pv_b1, Bool.false_eq_true, Bool.true_eq_false, Bool.not_false, Bool.not_true, pv_bT, pv_bF, eq_self, G.o84, G.o79, r3, e79, e6, tl, p12, pos, nz, eDiv, eMod, eT, cT, G.r79_4, G.t83, vp8, cp, e83]
    exact at123 0 (fun _ => by rw [hδρ, hz.2]; rfl)
  · have hmD := mulD (c := c) (show 0 < D by omega)
    have cT : (c ≤ D * c + p.length) = True := eq_true (by omega)
    have es : nI (D * c + p.length) - nI c = nI ((D - 1) * c + p.length) := by
      have := pk_sub (a := D * c + p.length) (b := c) (by omega)
      rw [this]
      congr 1
      omega
    have h6 := E.2.2.2.2.2 (by omega) p.length ρ hgu
    rw [hcc] at h6
    have e97 : h 97 ((D - 1) * c + p.length) = nI (ψ ρ) := by rw [hψρ]; exact h6.1
    simp only [z14_25, z14_26, z14_29, z14_32, z14_34, z14_35, z14_36, z14_39, z14_42, z14_43, z14_45, z14_48, z14_50, z14_60, z14_61, z14_63, z14_64, z14_66, z14_67, z14_69, z14_70, z14_72, z14_73, z14_75, z14_91, z14_92, z14_95, z14_96, z14_98, z14_99, z14_100, z14_102, z14_103, z14_105, z14_112, z14_113, z14_116, z14_117, z14_119, z14_120, z14_121, pv_catN, pv_cat1, pv_cat2, pv_cat3, pv_catL, Option.toList, List.nil_append, List.cons_append, List.append_nil, pv_rfS, pn_i, pn_r, pn_n, pn_o, true_and, and_true, Nat.le_refl, and_self, true_implies, false_implies, not_true_eq_false, not_false_eq_true, pv_b0, pv_b01, pv_bn0, pv_b1, Bool.false_eq_true, Bool.true_eq_false, Bool.not_false, Bool.not_true, pv_bT, pv_bF, eq_self, G.o84, G.o79, r3, e79, e6, tl, p12, pos, nz, eDiv, eMod, eT, cT, es, G.r84_11, G.t97, G.r84_12, G.t98, vp_nI (show (D - 1) * c + p.length < 12 by omega) (show 12 < 2 ^ 31 by decide), nI_clamp (show (D - 1) * c + p.length < 2 ^ 31 by omega), e97]
    exact at123 _ (fun z => by rw [hδρ]; exact h6.2.1 (by omega))
