/-! the class's planner: the search -/
def pC (h : PvH) (t : ST) (s : SS) (d : Nat) : Prop := hU h t s (rp s (tR t)) ∧ (∀ u ρ, (rp s (tR t))[u]? = some ρ → ∀ k, k ≤ 3 → h (93 + u) k = nI (wor t s ρ k)) ∧ (∀ f, f < tF t → h 86 f = nI (tB t f)) ∧ h 84 4 = nI (tF t) ∧ h 84 5 = nI (sH s) ∧ h 84 6 = nI (d * (rp s (tR t)).length)
theorem pC.fr {h h' : PvH} {t : ST} {s : SS} {d : Nat} (K : pC h t s d) (hc : (rp s (tR t)).length ≤ 4) (hf : ∀ o, o ≠ 84 → o ≠ 85 → o ≠ 87 → o ≠ 89 → o ≠ 90 → o ≠ 91 → o ≠ 97 → o ≠ 98 → h' o = h o) (h8 : ∀ k, 2 ≤ k → h' 84 k = h 84 k) : pC h' t s d := by
  have e : ∀ o, o ≠ 84 ∧ o ≠ 85 ∧ o ≠ 87 ∧ o ≠ 89 ∧ o ≠ 90 ∧ o ≠ 91 ∧ o ≠ 97 ∧ o ≠ 98 → h' o = h o := fun o ⟨a1, a2, a3, a4, a5, a6, a7, a8⟩ => hf o a1 a2 a3 a4 a5 a6 a7 a8
  obtain ⟨⟨u0, u1⟩, w, b, f4, f5, f6⟩ := K
  refine ⟨⟨by rw [e 79 (by omega)]; exact u0, fun u ρ hu => ?_⟩, fun u ρ hu k hk => ?_, fun f hf => ?_, ?_, ?_, ?_⟩
  · rw [e 80 (by omega), e 81 (by omega), e 82 (by omega), e 83 (by omega)]
    exact u1 u ρ hu
  · have := (List.getElem?_eq_some_iff.mp hu).1
    rw [e (93 + u) (by omega)]
    exact w u ρ hu k hk
  · rw [e 86 (by omega)]; exact b f hf
  · rw [h8 4 (by omega)]; exact f4
  · rw [h8 5 (by omega)]; exact f5
  · rw [h8 6 (by omega)]; exact f6
def pQ (t : ST) (s : SS) (n D d : Nat) (p l : List Nat) (φ ψ δ δ0 : Nat → Nat) (lft : Nat) (load : Nat → Nat) : Prop := D + n + 1 = d ∧ d ≤ 3 ∧ rp s (tR t) = p ++ l ∧ (∀ ρ ∈ l, ψ ρ = φ ρ ∧ δ ρ = δ0 ρ) ∧ (∀ ρ ∈ p ++ l, δ0 ρ ≤ D ∧ φ ρ < tF t ∧ ψ ρ < tF t) ∧ (∀ ρ ∈ p, δ ρ ≤ D + 1 ∧ (φ ρ < sH s + D → ψ ρ = φ ρ)) ∧ lft + ls (tCost t s D φ ψ) p = pLim s D ∧ (∀ f, load f = ls (tLoad t s D φ ψ f) p) ∧ (∀ f, f < tF t → load f ≤ tB t f) ∧ (D = 0 → ∀ ρ ∈ p ++ l, φ ρ = sP s ρ ∧ δ0 ρ = 0)
def pE (h : PvH) (t : ST) (s : SS) (n D : Nat) (p : List Nat) (φ ψ δ δ0 row : Nat → Nat) (lft : Nat) (load : Nat → Nat) : Prop := h 87 D = nI lft ∧ (∀ j, D < j → j ≤ D + n → h 87 j = nI (pLim s j)) ∧ (∀ f, f < 5 → h (89 + D) f = nI (load f)) ∧ (∀ j f, D < j → j < 3 → f < 5 → h (89 + j) f = 0) ∧ (∀ i ρ, p[i]? = some ρ → h 97 (D * (rp s (tR t)).length + i) = nI (ψ ρ) ∧ (¬ φ ρ < sH s + D → h 98 (D * (rp s (tR t)).length + i) = nI (δ ρ))) ∧ (0 < D → ∀ i ρ, (rp s (tR t))[i]? = some ρ → h 97 ((D - 1) * (rp s (tR t)).length + i) = nI (φ ρ) ∧ (¬ φ ρ < sH s + D → h 98 ((D - 1) * (rp s (tR t)).length + i) = nI (δ0 ρ)) ∧ h 97 i = nI (row ρ))
theorem mulD {D c : Nat} (h : 0 < D) : D * c = (D - 1) * c + c := by
  obtain ⟨k, rfl⟩ : ∃ k, D = k + 1 := ⟨D - 1, by omega⟩
  rw [Nat.add_sub_cancel, Nat.succ_mul]
theorem pE.fr {h h' : PvH} {t : ST} {s : SS} {n D : Nat} {p : List Nat} {φ ψ δ δ0 row : Nat → Nat} {lft : Nat} {load : Nat → Nat} (K : pE h t s n D p φ ψ δ δ0 row lft load) (hD : D + n < 3) (F : FR h h' (D * (rp s (tR t)).length + p.length)) : pE h' t s n D p φ ψ δ δ0 row lft load := by
  obtain ⟨k1, k2, k3, k4, k5, k6⟩ := K
  obtain ⟨f1, f2, f3, f4, f5⟩ := F
  refine ⟨by rw [f3 D (by omega)]; exact k1, fun j a b => by rw [f3 j (by omega)]; exact k2 j a b, fun f hf => by rw [f4 D f (by omega) hf]; exact k3 f hf, fun j f a b c => by rw [f4 j f b c]; exact k4 j f a b c, fun i ρ hi => ?_, fun hp i ρ hi => ?_⟩
  · have := (List.getElem?_eq_some_iff.mp hi).1
    rw [(f5 _ (show D * (rp s (tR t)).length + i < D * (rp s (tR t)).length + p.length by omega)).1, (f5 _ (show D * (rp s (tR t)).length + i < D * (rp s (tR t)).length + p.length by omega)).2]
    exact k5 i ρ hi
  · have := (List.getElem?_eq_some_iff.mp hi).1
    have hm := mulD (c := (rp s (tR t)).length) hp
    rw [(f5 _ (show (D - 1) * (rp s (tR t)).length + i < D * (rp s (tR t)).length + p.length by omega)).1, (f5 _ (show (D - 1) * (rp s (tR t)).length + i < D * (rp s (tR t)).length + p.length by omega)).2, (f5 i (by omega)).1]
    exact k6 hp i ρ hi
theorem hB.fr {h h' : PvH} {t : ST} {s : SS} {b : PB} (B : hB h t s b) (h4 : h' 84 = h 84) (h5 : h' 85 = h 85) : hB h' t s b := by
  unfold hB at B ⊢
  rw [h4, h5]
  exact B
theorem enF_bk {t : ST} {s : SS} (T : okT t) (O : okS t s) {n D : Nat} {φ : Nat → Nat} {sp : Nat} {row : Nat → Nat} (hs : sp + 99 * (n + 1) ≤ 400) (l : List Nat) (ψ δ : Nat → Nat) {b : PB} (hb : pBk b) : pBk (enF t s D (pLf t s n D φ sp row) l ψ δ b) := by
  refine enF_inv (Q := pBk) _ _ _ _ (fun ψ' δ' b hb => ?_) hb
  unfold pLf
  split
  · rename_i c
    unfold pOk at c
    have c := of_decide_eq_true (Bool.and_eq_true_iff.mp c).1
    have := pLim_le O D
    exact pP_bk T O n _ _ _ _ _ _ (by omega) hb
  · exact hb
theorem pH_le {t : ST} {s : SS} (T : okT t) (O : okS t s) {D : Nat} {p l : List Nat} {ψ δ : Nat → Nat} (hr : rp s (tR t) = p ++ l) : pH t s D p l ψ δ ≤ 1200 := by
  have h2 := rp_len s (tR t)
  have := T.2.2.1
  rw [hr, List.length_append] at h2
  have a1 := ls_le (f := fun ρ => if ψ ρ < sH s + D then 0 else wor t s ρ (δ ρ)) (c := 72) (l := l) (fun a ha => by
    have := wor_72 T O a (δ a)
    show (if ψ a < sH s + D then 0 else wor t s a (δ a)) ≤ 72
    split <;> omega)
  have a2 := ls_le (f := fun ρ => if ψ ρ < sH s + (D + 1) then 0 else wor t s ρ (δ ρ)) (c := 72) (l := p) (fun a ha => by
    have := wor_72 T O a (δ a)
    show (if ψ a < sH s + (D + 1) then 0 else wor t s a (δ a)) ≤ 72
    split <;> omega)
  unfold pH
  omega
def S14 (g : PvG) (x : SX) (n : Nat) (l : List Nat) : Prop := ∀ (d D : Nat) (p : List Nat) (φ ψ δ δ0 : Nat → Nat) (sp : Nat) (row : Nat → Nat) (lft : Nat) (load : Nat → Nat) (b : PB) (h : PvH) (P : PvP) (dd : Nat), pC h (xT x) (xS x) d → pQ (xT x) (xS x) n D d p l φ ψ δ δ0 lft load → pE h (xT x) (xS x) n D p φ ψ δ δ0 row lft load → hB h (xT x) (xS x) b → pBk b → sp + 99 * (n + 1) ≤ 400 → (∀ h', FR h h' (D * (rp (xS x) (tR (xT x))).length + p.length) → hB h' (xT x) (xS x) (enF (xT x) (xS x) D (pLf (xT x) (xS x) n D φ sp row) l ψ δ b) → P none g h') → pv_run (dd + (n * (rp (xS x) (tR (xT x))).length + l.length) + 2) 14 [.ref 84, .int (nI (D * (rp (xS x) (tR (xT x))).length + p.length)), .int (nI (pH (xT x) (xS x) D p l ψ δ)), .int (nI (sp + ls (tCost (xT x) (xS x) D φ ψ) p))] g h P
theorem m14_nil0 {g : PvG} {rt tt : Nat} {q : Nat → Nat} {x : SX} (G : gC g rt tt q) (r3 : pv_rf g 84 3 = some 79) (O : okX x) (hc4 : (rp (xS x) (tR (xT x))).length ≤ 4) : S14 g x 0 [] := by
  intro d D p φ ψ δ δ0 sp row lft load b h P dd K Q E B hb hs hP
  obtain ⟨q1, q2, q3, q4, q5, q6, q7, q8, q9, q10⟩ := Q
  rw [List.append_nil] at q3
  have hl := pLim_le O.S D
  have hpc : p.length = (rp (xS x) (tR (xT x))).length := by rw [q3]
  have ok : pOk (xT x) (xS x) D φ ψ = true := by
    unfold pOk
    rw [Bool.and_eq_true_iff, decide_eq_true_iff, pFit_t]
    unfold pCost pLoad
    rw [q3]
    exact ⟨by omega, fun f hf => by rw [← q8 f]; exact q9 f hf⟩
  have hH : pH (xT x) (xS x) D p [] ψ δ = pKept (xT x) (xS x) (D + 1) ψ δ := by
    unfold pH pKept
    rw [q3]
    exact Nat.zero_add _
  have hC : ls (tCost (xT x) (xS x) D φ ψ) p = pCost (xT x) (xS x) D φ ψ := by unfold pCost; rw [q3]
  have hval : enF (xT x) (xS x) D (pLf (xT x) (xS x) 0 D φ sp row) [] ψ δ b = pUp b (pH (xT x) (xS x) D p [] ψ δ) (sp + ls (tCost (xT x) (xS x) D φ ψ) p) (if D = 0 then ψ else row) := by
    show pLf (xT x) (xS x) 0 D φ sp row ψ δ b = _
    unfold pLf
    rw [if_pos ok, hH, hC]
    rfl
  have hHl := pH_le O.T O.S (D := D) (ψ := ψ) (δ := δ) (show rp (xS x) (tR (xT x)) = p ++ [] by rw [List.append_nil]; exact q3)
  rw [hval] at hP
  refine m14_head G B hb (by omega) (by omega) (fun hno => ?_) (fun hgo => ?_)
  · rw [pUp_no hno] at hP
    exact hP h FR.rf B
  · rw [pUp_yes hgo] at hP
    have hD2 : D ≤ 2 := by omega
    have hD : d * (rp (xS x) (tR (xT x))).length = D * (rp (xS x) (tR (xT x))).length + p.length := by
      rw [hpc, ← q1, show D + 0 + 1 = D + 1 from rfl, Nat.succ_mul]
    have hm : D * (rp (xS x) (tR (xT x))).length ≤ 2 * 4 := Nat.mul_le_mul hD2 hc4
    simp only [z14_25, z14_26, z14_29, z14_32, z14_34, z14_35, z14_36, z14_39, z14_53, z14_54, z14_55, z14_59, pv_catN, pv_cat1, pv_cat2, pv_cat3, pv_catL, Option.toList, List.nil_append, List.cons_append, List.append_nil, pv_rfS, pn_i, pn_r, pn_n, pn_o, true_and, and_true, Nat.le_refl, and_self, true_implies, false_implies, not_true_eq_false, not_false_eq_true, pv_b0, pv_b01, pv_bn0, pv_b1, Bool.false_eq_true, Bool.true_eq_false, Bool.not_false, Bool.not_true, pv_bT, pv_bF, eq_self, G.o84, G.o79, r3, K.1.1, K.2.2.2.2.2, hD, nI_le' (show D * (rp (xS x) (tR (xT x))).length + p.length < 2 ^ 31 by omega) (show D * (rp (xS x) (tR (xT x))).length + p.length < 2 ^ 31 by omega)]
    rw [z14_56 (by simp [pv_cat, Value.category]) (by decide)]
    refine ⟨G.o84, m15 (T := D * (rp (xS x) (tR (xT x))).length + p.length) G r3 hc4 K.1.1 fun h' F e0 e1 e2 => ?_⟩
    simp only [z14_59, pv_catN, pv_cat1, pv_cat2, pv_cat3, pv_catL, Option.toList, List.nil_append, List.cons_append, List.append_nil, pv_rfS, pn_i, pn_r, pn_n, pn_o, true_and, and_true, Nat.le_refl, and_self, true_implies, false_implies, not_true_eq_false, not_false_eq_true, pv_b0, pv_b01, pv_bn0, pv_b1, Bool.false_eq_true, Bool.true_eq_false, Bool.not_false, Bool.not_true, pv_bT, pv_bF, eq_self]
    refine hP h' F ⟨?_, fun _ => ⟨e1, fun u ρ hu => ?_⟩⟩
    · rw [e0]
      rfl
    · have hu4 := (List.getElem?_eq_some_iff.mp hu).1
      rw [e2 u hu4]
      show h 97 u = nI ((if D = 0 then ψ else row) ρ)
      by_cases c : D = 0
      · rw [if_pos c]
        have := (E.2.2.2.2.1 u ρ (by rw [← q3]; exact hu)).1
        rw [c, Nat.zero_mul, Nat.zero_add] at this
        exact this
      · rw [if_neg c]
        exact (E.2.2.2.2.2 (by omega) u ρ hu).2.2
theorem m14_nilS {g : PvG} {x : SX} {n : Nat} (O : okX x) (ih : S14 g x n (rp (xS x) (tR (xT x)))) : S14 g x (n + 1) [] := by
  intro d D p φ ψ δ δ0 sp row lft load b h P dd K Q E B hb hs hP
  obtain ⟨q1, q2, q3, q4, q5, q6, q7, q8, q9, q10⟩ := Q
  obtain ⟨k1, k2, k3, k4, k5, k6⟩ := E
  rw [List.append_nil] at q3 q5 q10
  have hl := pLim_le O.S D
  have hpc : p.length = (rp (xS x) (tR (xT x))).length := by rw [q3]
  have ok : pOk (xT x) (xS x) D φ ψ = true := by
    unfold pOk
    rw [Bool.and_eq_true_iff, decide_eq_true_iff, pFit_t]
    unfold pCost pLoad
    rw [q3]
    exact ⟨by omega, fun f hf => by rw [← q8 f]; exact q9 f hf⟩
  have hC : ls (tCost (xT x) (xS x) D φ ψ) p = pCost (xT x) (xS x) D φ ψ := by unfold pCost; rw [q3]
  have hval : enF (xT x) (xS x) D (pLf (xT x) (xS x) (n + 1) D φ sp row) [] ψ δ b = enF (xT x) (xS x) (D + 1) (pLf (xT x) (xS x) n (D + 1) ψ (sp + ls (tCost (xT x) (xS x) D φ ψ) p) (if D = 0 then ψ else row)) (rp (xS x) (tR (xT x))) ψ δ b := by
    show pLf (xT x) (xS x) (n + 1) D φ sp row ψ δ b = _
    unfold pLf
    rw [if_pos ok, hC]
    rfl
  rw [hval] at hP
  have hm : (D + 1) * (rp (xS x) (tR (xT x))).length = D * (rp (xS x) (tR (xT x))).length + p.length := by rw [Nat.succ_mul, hpc]
  have := ih d (D + 1) [] ψ ψ δ δ (sp + ls (tCost (xT x) (xS x) D φ ψ) p) (if D = 0 then ψ else row) (pLim (xS x) (D + 1)) (fun _ => 0) b h P dd K ⟨by omega, q2, rfl, fun _ _ => ⟨rfl, rfl⟩, fun ρ hρ => ?_, by simp, ?_, fun _ => rfl, fun _ _ => Nat.zero_le _, fun h => absurd h (Nat.succ_ne_zero D)⟩ ⟨k2 (D + 1) (by omega) (by omega), fun j a b => k2 j (by omega) (by omega), fun f hf => k4 (D + 1) f (by omega) (by omega) hf, fun j f a b c => k4 j f (by omega) b c, by simp, fun _ i ρ hi => ?_⟩ B hb (by omega) (fun h' F B' => hP h' (by
      have e0 : (D + 1) * (rp (xS x) (tR (xT x))).length + ([] : List Nat).length = D * (rp (xS x) (tR (xT x))).length + p.length := hm
      rw [e0] at F
      exact F) B')
  · have e0 : (D + 1) * (rp (xS x) (tR (xT x))).length + ([] : List Nat).length = D * (rp (xS x) (tR (xT x))).length + p.length := hm
    have e1 : pH (xT x) (xS x) (D + 1) [] (rp (xS x) (tR (xT x))) ψ δ = pH (xT x) (xS x) D p [] ψ δ := by
      unfold pH
      rw [q3]
      exact (Nat.add_zero _).trans (Nat.zero_add _).symm
    have e2 : sp + ls (tCost (xT x) (xS x) D φ ψ) p + ls (tCost (xT x) (xS x) (D + 1) ψ ψ) [] = sp + ls (tCost (xT x) (xS x) D φ ψ) p := rfl
    have e3 : dd + (n * (rp (xS x) (tR (xT x))).length + (rp (xS x) (tR (xT x))).length) + 2 = dd + ((n + 1) * (rp (xS x) (tR (xT x))).length + ([] : List Nat).length) + 2 := by
      rw [Nat.succ_mul]
      rfl
    rw [e0, e1, e2, e3] at this
    exact this
  · have hρ : ρ ∈ p := by rw [← q3]; exact hρ
    have h1 := q5 ρ hρ
    have h2 := q6 ρ hρ
    exact ⟨by omega, h1.2.2, h1.2.2⟩
  · exact Nat.add_zero _
  · have hi2 : p[i]? = some ρ := by rw [← q3]; exact hi
    have h5 := k5 i ρ hi2
    have hρ : ρ ∈ p := List.mem_of_getElem? hi2
    rw [Nat.add_sub_cancel]
    refine ⟨h5.1, fun c => h5.2 (fun c2 => ?_), ?_⟩
    · have := (q6 ρ hρ).2 c2
      omega
    · by_cases c : D = 0
      · rw [if_pos c]
        have := h5.1
        rw [c, Nat.zero_mul, Nat.zero_add] at this
        exact this
      · rw [if_neg c]
        exact (k6 (by omega) i ρ hi).2.2
