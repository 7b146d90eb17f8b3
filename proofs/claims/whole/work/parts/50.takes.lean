/-! plans, the model: the pieces -/
def rAt (s : SS) (ψ : Nat → Nat) (e : Nat) : Nat := if th s e = true then ψ (hd (sK s) e) else sP s e
def mS (h : PvH) (x : SX) (D : Nat) (ψ : Nat → Nat) : Prop := ∀ e, e < tR (xT x) → h 120 (8 * D + e) = nI (rAt (xS x) ψ e)
def mG (h : PvH) (x : SX) (D : Nat) (φ : Nat → Nat) : Prop := ∀ e, e < tR (xT x) → h 122 (8 * D + e) = pv_b (!(th (xS x) e) || decide (φ (hd (sK (xS x)) e) < sH (xS x) + D))
def mV (h : PvH) (x : SX) (D : Nat) (δ : Nat → Nat) : Prop := ∀ e, e < tR (xT x) → th (xS x) e = true → h 121 (8 * D + e) = nI (sV (xS x) e - (if sK (xS x) e = 1 then 0 else δ (hd (sK (xS x)) e)))
def mF (h : PvH) (x : SX) (D : Nat) (φ : Nat → Nat) : Prop := (D = 0 → ∀ e, e < tR (xT x) → rAt (xS x) φ e = sP (xS x) e) ∧ (0 < D → mS h x (D - 1) φ)
/-- what the search at a depth leaves as it was -/
def MF (h h' : PvH) (D : Nat) : Prop := (∀ o, o ≠ 102 → o ≠ 120 → o ≠ 121 → o ≠ 122 → o ≠ 123 → o ≠ 124 → o ≠ 126 → h' o = h o) ∧ (∀ k, k ≠ 32 → k ≠ 33 → h' 102 k = h 102 k) ∧ (∀ k, k < 8 * D → h' 120 k = h 120 k) ∧ (∀ k, k < 8 * D + 8 → h' 121 k = h 121 k ∧ h' 122 k = h 122 k) ∧ ∀ k, k ≤ D → h' 123 k = h 123 k
theorem MF.rf {h : PvH} {D : Nat} : MF h h D := ⟨fun _ _ _ _ _ _ _ _ => rfl, fun _ _ _ => rfl, fun _ _ => rfl, fun _ _ => ⟨rfl, rfl⟩, fun _ _ => rfl⟩
theorem MF.tr {a b c : PvH} {D D' : Nat} (h1 : MF a b D) (h2 : MF b c D') (h : D ≤ D') : MF a c D := ⟨fun o a1 a2 a3 a4 a5 a6 a7 => (h2.1 o a1 a2 a3 a4 a5 a6 a7).trans (h1.1 o a1 a2 a3 a4 a5 a6 a7), fun k a1 a2 => (h2.2.1 k a1 a2).trans (h1.2.1 k a1 a2), fun k hk => (h2.2.2.1 k (by omega)).trans (h1.2.2.1 k hk), fun k hk => ⟨(h2.2.2.2.1 k (by omega)).1.trans (h1.2.2.2.1 k hk).1, (h2.2.2.2.1 k (by omega)).2.trans (h1.2.2.2.1 k hk).2⟩, fun k hk => (h2.2.2.2.2 k (by omega)).trans (h1.2.2.2.2 k hk)⟩
theorem MF.cD {h h' : PvH} {D : Nat} {x : SX} (F : MF h h' D) (M : cD h x) : cD h' x := M.fr (fun o a b => F.1 o (by omega) (by omega) (by omega) (by omega) (by omega) (by omega) (by omega)) (fun k hk => F.2.1 k (by omega) (by omega))
theorem e8N {D e : Nat} : nI (8 * D) + nI e = nI (8 * D + e) := nI_add _ _
theorem c8N {D : Nat} : (8 : Int32) * nI D = nI (8 * D) := pk_mul 8 D
theorem m140 {d : Nat} {P : PvP} {g : PvG} {h : PvH} {x : SX} (G : gM g) (M : cD h x) (O : okX x) {D r : Nat} {φ : Nat → Nat} (hD : D < 4) (hr : r < tR (xT x)) (F : mF h x D φ) : pv_run (d + 1) 140 [.ref 102, .int (nI D), .int (nI r)] g h P = P (some (.int (nI (rAt (xS x) φ r)))) g h := by
  have hR := O.R
  have e0 : (nI D = 0) = (D = 0) := nI_eq' (b := 0) (by omega) (by decide)
  by_cases c : D = 0
  · subst c
    simp only [e140, z140_0, z140_1, z140_4, z140_5, z140_8, z140_9, z140_10, z140_13, z140_14, z140_17, z140_19, z140_20, z140_21, z140_23, z140_24, z140_25, z140_26, z140_27, pv_catN, pv_cat1, pv_cat2, pv_cat3, pv_catL, Option.toList, List.nil_append, List.cons_append, List.append_nil, pv_rfS, pn_i, pn_r, pn_n, pn_o, true_and, and_true, Nat.le_refl, and_self, true_implies, false_implies, not_true_eq_false, not_false_eq_true, pv_b0, pv_b01, pv_bn0, pv_b1, Bool.false_eq_true, Bool.true_eq_false, Bool.not_false, Bool.not_true, pv_bT, pv_bF, eq_self, e0, G.o, G.r11, G.t109, vp_nI (show r < 8 by omega) (show 8 < 2 ^ 31 by decide), nI_clamp (show r < 2 ^ 31 by omega), M.M.P r hr, F.1 rfl r hr]
  · have hs : nI (8 * D) - 8 = nI (8 * (D - 1)) := by
      rw [show nI (8 * D) - 8 = nI (8 * D - 8) from pk_sub (b := 8) (by omega)]
      congr 1
      omega
    have := F.2 (by omega) r hr
    simp only [e140, z140_0, z140_1, z140_4, z140_5, z140_8, z140_9, z140_10, z140_13, z140_14, z140_17, z140_19, z140_20, z140_21, z140_23, z140_24, z140_25, z140_26, z140_27, pv_catN, pv_cat1, pv_cat2, pv_cat3, pv_catL, Option.toList, List.nil_append, List.cons_append, List.append_nil, pv_rfS, pn_i, pn_r, pn_n, pn_o, true_and, and_true, Nat.le_refl, and_self, true_implies, false_implies, not_true_eq_false, not_false_eq_true, pv_b0, pv_b01, pv_bn0, pv_b1, Bool.false_eq_true, Bool.true_eq_false, Bool.not_false, Bool.not_true, pv_bT, pv_bF, eq_self, e0, c, c8N, hs, e8N, G.o, G.r28, G.t120, vp_nI (show 8 * (D - 1) + r < 32 by omega) (show 32 < 2 ^ 31 by decide), nI_clamp (show 8 * (D - 1) + r < 2 ^ 31 by omega), this]
def mCN (t : ST) (s : SS) (D : Nat) (φ ψ : Nat → Nat) (n : Nat) : Nat := sm (fun r => if th s r = true then (if φ (hd (sK s) r) < sH s + D then 0 else tW t r * (ψ (hd (sK s) r) - φ (hd (sK s) r))) else 0) n
def mLN (t : ST) (s : SS) (D : Nat) (φ ψ : Nat → Nat) (f n : Nat) : Nat := sm (fun r => if th s r = true then (if φ (hd (sK s) r) < sH s + D then 0 else if ψ (hd (sK s) r) = f then tW t r else 0) else 0) n
theorem mCN_R {t : ST} {s : SS} (O : okS t s) (D : Nat) (φ ψ : Nat → Nat) : mCN t s D φ ψ (tR t) = pCost t s D φ ψ := by
  unfold mCN pCost
  rw [← ls_part O (fun r ρ => if φ ρ < sH s + D then 0 else tW t r * (ψ ρ - φ ρ))]
  refine ls_congr (fun ρ hρ => ?_)
  have h := rp_mem.mp hρ
  unfold tCost gW
  by_cases z : φ ρ < sH s + D
  · rw [if_pos z]
    refine Eq.trans (sm_congr (fun r hr => ?_)) (sm_zero (tR t))
    rw [if_pos z]
    split <;> rfl
  · rw [if_neg z, Nat.mul_comm]
    unfold wOf
    rw [sm_mul]
    refine sm_congr (fun r hr => ?_)
    rw [grp_bit hr h.2.2, if_neg z]
    by_cases c : (th s r && decide (hd (sK s) r = ρ)) = true
    · rw [if_pos c, if_pos c]
    · rw [if_neg c, if_neg c, Nat.zero_mul]
theorem mLN_R {t : ST} {s : SS} (O : okS t s) (D : Nat) (φ ψ : Nat → Nat) (f : Nat) : mLN t s D φ ψ f (tR t) = pLoad t s D φ ψ f := by
  unfold mLN pLoad
  rw [← ls_part O (fun r ρ => if φ ρ < sH s + D then 0 else if ψ ρ = f then tW t r else 0)]
  refine ls_congr (fun ρ hρ => ?_)
  have h := rp_mem.mp hρ
  unfold tLoad gW
  by_cases z : φ ρ < sH s + D
  · rw [if_pos z]
    refine Eq.trans (sm_congr (fun r hr => ?_)) (sm_zero (tR t))
    rw [if_pos z]
    split <;> rfl
  · rw [if_neg z]
    by_cases y : ψ ρ = f
    · rw [if_pos y]
      unfold wOf
      refine sm_congr (fun r hr => ?_)
      rw [grp_bit hr h.2.2, if_neg z, if_pos y]
    · rw [if_neg y]
      refine Eq.trans (sm_congr (fun r hr => ?_)) (sm_zero (tR t))
      rw [if_neg z, if_neg y]
      split <;> rfl
theorem mCN_le {t : ST} {s : SS} {D : Nat} {φ ψ : Nat → Nat} (T : okT t) (hψ : ∀ ρ, ρ < tR t → ψ ρ < tF t) {n : Nat} (hn : n ≤ tR t) : mCN t s D φ ψ n ≤ 360 := by
  have hF := T.2.1
  have h := sm_le (f := fun r => if th s r = true then (if φ (hd (sK s) r) < sH s + D then 0 else tW t r * (ψ (hd (sK s) r) - φ (hd (sK s) r))) else 0) (b := 45) (n := n) (fun r hr => by
    have h1 := (T.2.2.2.1 r (by omega)).2.1
    have h2 := hψ (hd (sK s) r) (Nat.lt_of_le_of_lt (hd_le _ _) (by omega))
    show (if th s r = true then (if φ (hd (sK s) r) < sH s + D then 0 else tW t r * (ψ (hd (sK s) r) - φ (hd (sK s) r))) else 0) ≤ 45
    split
    · split
      · omega
      · exact Nat.le_trans (Nat.mul_le_mul h1 (show ψ (hd (sK s) r) - φ (hd (sK s) r) ≤ 5 by omega)) (by decide)
    · omega)
  have := T.2.2.1
  unfold mCN
  omega
theorem mLN_le {t : ST} {s : SS} {D : Nat} {φ ψ : Nat → Nat} {f : Nat} (T : okT t) {n : Nat} (hn : n ≤ tR t) : mLN t s D φ ψ f n ≤ 72 := by
  have h := sm_le (f := fun r => if th s r = true then (if φ (hd (sK s) r) < sH s + D then 0 else if ψ (hd (sK s) r) = f then tW t r else 0) else 0) (b := 9) (n := n) (fun r hr => by
    have h1 := (T.2.2.2.1 r (by omega)).2.1
    show (if th s r = true then (if φ (hd (sK s) r) < sH s + D then 0 else if ψ (hd (sK s) r) = f then tW t r else 0) else 0) ≤ 9
    repeat' split
    all_goals omega)
  have := T.2.2.1
  unfold mLN
  omega
set_option maxHeartbeats 1000000 in
theorem m139 {d : Nat} {P : PvP} {g : PvG} {h : PvH} {x : SX} (G : gM g) (M : cD h x) (O : okX x) {D L : Nat} {φ ψ : Nat → Nat} {w : Int32} (hD : D < 4) (hL : L < 2 ^ 31) (hψ : ∀ ρ, ρ < tR (xT x) → ψ ρ < tF (xT x)) (hφ : ∀ ρ, ρ < tR (xT x) → φ ρ ≤ ψ ρ) (S : mS h x D ψ) (Gn : mG h x D φ) (F : mF h x D φ) (hP : ∀ h' : PvH, (∀ o, o ≠ 126 → h' o = h o) → P (some (.int (nI (if (decide (pCost (xT x) (xS x) D φ ψ ≤ L) && pFit (xT x) (xS x) D φ ψ (tF (xT x))) = true then pCost (xT x) (xS x) D φ ψ else 99999)))) g h') : pv_run (d + 2) 139 [.ref 102, .int (nI D), .int w, .int (nI L)] g h P := by
  have hR := O.R
  have hF := O.F
  have hcost : pCost (xT x) (xS x) D φ ψ ≤ 360 := by rw [← mCN_R O.S]; exact mCN_le O.T hψ (Nat.le_refl _)
  have M1 : ∀ h1 : PvH, (∀ o, o ≠ 126 → h1 o = h o) → cD h1 x := fun h1 f => M.fr (fun o a b => f o (by omega)) (fun k _ => by rw [f 102 (by omega)])
  have l3 : ∀ n f (ww : Bool) (h1 : PvH), f + n = tF (xT x) → ww = (decide (pCost (xT x) (xS x) D φ ψ ≤ L) && pFit (xT x) (xS x) D φ ψ f) → (∀ o, o ≠ 126 → h1 o = h o) → (∀ f, f < 5 → h1 126 f = nI (pLoad (xT x) (xS x) D φ ψ f)) → pv_E (d + 1) 139 P 135 [some (.ref 102), some (.int (nI D)), some (.int w), some (.int (nI L)), some (.int (nI (8 * D))), some (.int (nI (pCost (xT x) (xS x) D φ ψ))), some (.int (pv_b ww)), some (.int (nI f))] [] 0 0 g h1 := by
    intro n
    induction n with
    | zero =>
      intro f ww h1 hf hw f1 L1
      have hf : f = tF (xT x) := hf
      subst hf
      have N := M1 h1 f1
      rw [z139_135]
      simp only [z139_137, z139_138, z139_141, z139_179, z139_181, z139_184, z139_186, z139_189, z139_191, pv_catN, pv_cat1, pv_cat2, pv_cat3, pv_catL, Option.toList, List.nil_append, List.cons_append, List.append_nil, pv_rfS, pn_i, pn_r, pn_n, pn_o, true_and, and_true, Nat.le_refl, and_self, true_implies, false_implies, not_true_eq_false, not_false_eq_true, pv_b0, pv_b01, pv_bn0, pv_b1, Bool.false_eq_true, Bool.true_eq_false, Bool.not_false, Bool.not_true, pv_bT, pv_bF, eq_self, G.o, N.M.F, nI_le' (show tF (xT x) < 2 ^ 31 by omega) (show tF (xT x) < 2 ^ 31 by omega)]
      have := hP h1 f1
      rw [← hw] at this
      refine br (fun c => ?_) (fun c => ?_)
      · rw [c] at this
        exact this
      · rw [c] at this
        exact this
    | succ n ih =>
      intro f ww h1 hf hw f1 L1
      have hfF : f < tF (xT x) := by omega
      have N := M1 h1 f1
      have hB := O.T.2.2.2.2 f hfF
      have hLd : pLoad (xT x) (xS x) D φ ψ f ≤ 72 := by rw [← mLN_R O.S]; exact mLN_le O.T (Nat.le_refl _)
      have e : pFit (xT x) (xS x) D φ ψ (f + 1) = (pFit (xT x) (xS x) D φ ψ f && decide (pLoad (xT x) (xS x) D φ ψ f ≤ tB (xT x) f)) := rfl
      rw [z139_135]
      simp only [z139_137, z139_138, z139_141, z139_144, z139_146, z139_149, z139_150, z139_153, z139_155, z139_156, z139_157, z139_160, z139_162, z139_163, z139_166, z139_167, z139_170, z139_171, z139_173, z139_176, pv_catN, pv_cat1, pv_cat2, pv_cat3, pv_catL, Option.toList, List.nil_append, List.cons_append, List.append_nil, pv_rfS, pn_i, pn_r, pn_n, pn_o, true_and, and_true, Nat.le_refl, and_self, true_implies, false_implies, not_true_eq_false, not_false_eq_true, pv_b0, pv_b01, pv_bn0, pv_b1, Bool.false_eq_true, Bool.true_eq_false, Bool.not_false, Bool.not_true, pv_bT, pv_bF, eq_self, G.o, N.M.F, nI_le' (show tF (xT x) < 2 ^ 31 by omega) (show f < 2 ^ 31 by omega), show (tF (xT x) ≤ f) = False from eq_false (by omega), G.r36, G.t126, G.r5, G.t104, vp_nI (show f < 5 by omega) (show 5 < 2 ^ 31 by decide), nI_clamp (show f < 2 ^ 31 by omega), L1 f (by omega), N.M.B f hfF, nI_lt' (show tB (xT x) f < 2 ^ 31 by omega) (show pLoad (xT x) (xS x) D φ ψ f < 2 ^ 31 by omega), nI_1]
      refine br (fun c => ?_) (fun c => ⟨fun c2 => ?_, fun c2 => ?_⟩)
      · exact ih (f + 1) false h1 (by omega) (by rw [e, ← Bool.and_assoc, ← hw, c]; rfl) f1 L1
      · exact ih (f + 1) false h1 (by omega) (by rw [e, decide_eq_false (show ¬ pLoad (xT x) (xS x) D φ ψ f ≤ tB (xT x) f by omega), Bool.and_false, Bool.and_false]) f1 L1
      · exact ih (f + 1) true h1 (by omega) (by rw [e, ← Bool.and_assoc, ← hw, c, decide_eq_true (show pLoad (xT x) (xS x) D φ ψ f ≤ tB (xT x) f by omega)]; rfl) f1 L1
  have l2 : ∀ n r (h1 : PvH), r + n = tR (xT x) → (∀ o, o ≠ 126 → h1 o = h o) → (∀ f, f < 5 → h1 126 f = nI (mLN (xT x) (xS x) D φ ψ f r)) → pv_E (d + 1) 139 P 35 [some (.ref 102), some (.int (nI D)), some (.int w), some (.int (nI L)), some (.int (nI (8 * D))), some (.int (nI (mCN (xT x) (xS x) D φ ψ r))), some (.int (nI r)), none] [] 0 0 g h1 := by
    intro n
    induction n with
    | zero =>
      intro r h1 hr f1 L1
      have hr : r = tR (xT x) := hr
      subst hr
      have N := M1 h1 f1
      have L2 : ∀ f, f < 5 → h1 126 f = nI (pLoad (xT x) (xS x) D φ ψ f) := fun f hf => by rw [L1 f hf, mLN_R O.S]
      have l30 := l3 (tF (xT x)) 0
      rw [z139_35]
      simp only [z139_37, z139_38, z139_41, z139_119, z139_121, z139_122, z139_125, z139_126, z139_129, z139_130, z139_132, z139_133, pv_catN, pv_cat1, pv_cat2, pv_cat3, pv_catL, Option.toList, List.nil_append, List.cons_append, List.append_nil, pv_rfS, pn_i, pn_r, pn_n, pn_o, true_and, and_true, Nat.le_refl, and_self, true_implies, false_implies, not_true_eq_false, not_false_eq_true, pv_b0, pv_b01, pv_bn0, pv_b1, Bool.false_eq_true, Bool.true_eq_false, Bool.not_false, Bool.not_true, pv_bT, pv_bF, eq_self, G.o, N.M.R, nI_le' (show tR (xT x) < 2 ^ 31 by omega) (show tR (xT x) < 2 ^ 31 by omega), mCN_R O.S, nI_lt' hL (show pCost (xT x) (xS x) D φ ψ < 2 ^ 31 by omega)]
      refine ⟨fun c => ?_, fun c => ?_⟩
      · exact l30 false h1 (Nat.zero_add _) (by rw [decide_eq_false (by omega)]; rfl) f1 L2
      · exact l30 true h1 (Nat.zero_add _) (by rw [decide_eq_true (by omega)]; rfl) f1 L2
    | succ n ih =>
      intro r h1 hr f1 L1
      have hrR : r < tR (xT x) := by omega
      have N := M1 h1 f1
      have e1 : mCN (xT x) (xS x) D φ ψ (r + 1) = mCN (xT x) (xS x) D φ ψ r + (if th (xS x) r = true then (if φ (hd (sK (xS x)) r) < sH (xS x) + D then 0 else tW (xT x) r * (ψ (hd (sK (xS x)) r) - φ (hd (sK (xS x)) r))) else 0) := rfl
      have e2 : ∀ f, mLN (xT x) (xS x) D φ ψ f (r + 1) = mLN (xT x) (xS x) D φ ψ f r + (if th (xS x) r = true then (if φ (hd (sK (xS x)) r) < sH (xS x) + D then 0 else if ψ (hd (sK (xS x)) r) = f then tW (xT x) r else 0) else 0) := fun f => rfl
      have v32 := vp_nI (show 8 * D + r < 32 by omega) (show 32 < 2 ^ 31 by decide)
      have c32 := nI_clamp (show 8 * D + r < 2 ^ 31 by omega)
      have eG : h1 122 (8 * D + r) = pv_b (!(th (xS x) r) || decide (φ (hd (sK (xS x)) r) < sH (xS x) + D)) := by rw [f1 122 (by omega)]; exact Gn r hrR
      rw [z139_35]
      simp only [z139_37, z139_38, z139_41, z139_44, z139_45, z139_48, z139_50, z139_52, z139_53, z139_54, z139_113, z139_116, pv_catN, pv_cat1, pv_cat2, pv_cat3, pv_catL, Option.toList, List.nil_append, List.cons_append, List.append_nil, pv_rfS, pn_i, pn_r, pn_n, pn_o, true_and, and_true, Nat.le_refl, and_self, true_implies, false_implies, not_true_eq_false, not_false_eq_true, pv_b0, pv_b01, pv_bn0, pv_b1, Bool.false_eq_true, Bool.true_eq_false, Bool.not_false, Bool.not_true, pv_bT, pv_bF, eq_self, G.o, N.M.R, nI_le' (show tR (xT x) < 2 ^ 31 by omega) (show r < 2 ^ 31 by omega), show (tR (xT x) ≤ r) = False from eq_false (by omega), e8N, G.r30, G.t122, v32, c32, eG, nI_1]
      refine ⟨fun c => ?_, fun c => ?_⟩
      · have c : (!(th (xS x) r) || decide (φ (hd (sK (xS x)) r) < sH (xS x) + D)) = true := by
          cases z : (!(th (xS x) r) || decide (φ (hd (sK (xS x)) r) < sH (xS x) + D)) with
          | false => exact absurd z c
          | true => rfl
        have z1 : (if th (xS x) r = true then (if φ (hd (sK (xS x)) r) < sH (xS x) + D then 0 else tW (xT x) r * (ψ (hd (sK (xS x)) r) - φ (hd (sK (xS x)) r))) else 0) = 0 := by
          by_cases y : th (xS x) r = true
          · rw [if_pos y]
            rw [y] at c
            rw [if_pos (of_decide_eq_true c)]
          · rw [if_neg y]
        have z2 : ∀ f, (if th (xS x) r = true then (if φ (hd (sK (xS x)) r) < sH (xS x) + D then 0 else if ψ (hd (sK (xS x)) r) = f then tW (xT x) r else 0) else 0) = 0 := fun f => by
          by_cases y : th (xS x) r = true
          · rw [if_pos y]
            rw [y] at c
            rw [if_pos (of_decide_eq_true c)]
          · rw [if_neg y]
        have := ih (r + 1) h1 (by omega) f1 (fun f hf => by rw [e2, z2, Nat.add_zero]; exact L1 f hf)
        rw [e1, z1, Nat.add_zero] at this
        exact this
      · have c := Classical.not_not.mp c
        have c := Bool.or_eq_false_iff.mp c
        have ct : th (xS x) r = true := by simpa using c.1
        have ca := of_decide_eq_false c.2
        have eS : h1 120 (8 * D + r) = nI (ψ (hd (sK (xS x)) r)) := by
          rw [f1 120 (by omega), S r hrR]
          unfold rAt
          rw [if_pos ct]
        have hh := Nat.lt_of_le_of_lt (hd_le (sK (xS x)) r) hrR
        have eF : rAt (xS x) φ r = φ (hd (sK (xS x)) r) := by
          unfold rAt
          rw [if_pos ct]
        have F1 : mF h1 x D φ := ⟨F.1, fun z e he => by rw [f1 120 (by omega)]; exact F.2 z e he⟩
        have es : nI (ψ (hd (sK (xS x)) r)) - nI (φ (hd (sK (xS x)) r)) = nI (ψ (hd (sK (xS x)) r) - φ (hd (sK (xS x)) r)) := pk_sub (hφ _ hh)
        have h5 := hψ _ hh
        simp only [z139_57, z139_59, z139_60, z139_63, z139_65, z139_66, z139_67, z139_70, z139_72, z139_74, z139_75, z139_76, z139_77, z139_78, z139_80, z139_83, z139_84, z139_85, z139_86, z139_88, z139_89, z139_92, z139_93, z139_96, z139_98, z139_100, z139_101, z139_102, z139_103, z139_104, z139_105, z139_108, z139_110, z139_111, z139_112, z139_113, z139_116, pv_catN, pv_cat1, pv_cat2, pv_cat3, pv_catL, Option.toList, List.nil_append, List.cons_append, List.append_nil, pv_rfS, pn_i, pn_r, pn_n, pn_o, true_and, and_true, Nat.le_refl, and_self, true_implies, false_implies, not_true_eq_false, not_false_eq_true, pv_b0, pv_b01, pv_bn0, pv_b1, Bool.false_eq_true, Bool.true_eq_false, Bool.not_false, Bool.not_true, pv_bT, pv_bF, eq_self, G.o, G.r7, G.t105, G.r28, G.t120, G.r36, G.t126, vp_nI (show r < 8 by omega) (show 8 < 2 ^ 31 by decide), nI_clamp (show r < 2 ^ 31 by omega), e8N, v32, c32, eS, m140 G N O hD hrR F1, eF, es, N.M.W r hrR, pk_mul, nI_add, vp_nI (show ψ (hd (sK (xS x)) r) < 5 by omega) (show 5 < 2 ^ 31 by decide), nI_clamp (show ψ (hd (sK (xS x)) r) < 2 ^ 31 by omega), L1 _ (show ψ (hd (sK (xS x)) r) < 5 by omega), nI_1]
        have := ih (r + 1) (pv_st h1 126 (ψ (hd (sK (xS x)) r)) (nI (mLN (xT x) (xS x) D φ ψ (ψ (hd (sK (xS x)) r)) r + tW (xT x) r))) (by omega) (fun o a => by rw [st_o a, f1 o a]) (fun f hf => by
          rw [e2, if_pos ct, if_neg ca]
          by_cases z : f = ψ (hd (sK (xS x)) r)
          · rw [z, st_at, if_pos rfl]
          · rw [st_k z, if_neg (fun y => z y.symm), Nat.add_zero]
            exact L1 f hf)
        rw [e1, if_pos ct, if_neg ca] at this
        exact this
  have l1 : ∀ n f (h1 : PvH), f + n = 5 → (∀ o, o ≠ 126 → h1 o = h o) → (∀ e, e < f → h1 126 e = 0) → pv_E (d + 1) 139 P 12 [some (.ref 102), some (.int (nI D)), some (.int w), some (.int (nI L)), some (.int (nI (8 * D))), some (.int 0), some (.int (nI f)), none] [] 0 0 g h1 := by
    intro n
    induction n with
    | zero =>
      intro f h1 hf f1 L1
      have hf : f = 5 := hf
      subst hf
      rw [z139_12]
      simp only [z139_14, z139_15, z139_32, z139_33, pv_catN, pv_cat1, pv_cat2, pv_cat3, pv_catL, Option.toList, List.nil_append, List.cons_append, List.append_nil, pv_rfS, pn_i, pn_r, pn_n, pn_o, true_and, and_true, Nat.le_refl, and_self, true_implies, false_implies, not_true_eq_false, not_false_eq_true, pv_b0, pv_b01, pv_bn0, pv_b1, Bool.false_eq_true, Bool.true_eq_false, Bool.not_false, Bool.not_true, pv_bT, pv_bF, eq_self, show ((5 : Int32) ≤ nI 5) = True from eq_true (by decide)]
      exact l2 (tR (xT x)) 0 h1 (Nat.zero_add _) f1 (fun f hf => L1 f hf)
    | succ n ih =>
      intro f h1 hf f1 L1
      have hc : ((5 : Int32) ≤ nI f) = False := eq_false (by rw [show (5 : Int32) = nI 5 from rfl, nI_le' (by decide) (by omega)]; omega)
      rw [z139_12]
      simp only [z139_14, z139_15, z139_18, z139_19, z139_22, z139_24, z139_25, z139_26, z139_29, pv_catN, pv_cat1, pv_cat2, pv_cat3, pv_catL, Option.toList, List.nil_append, List.cons_append, List.append_nil, pv_rfS, pn_i, pn_r, pn_n, pn_o, true_and, and_true, Nat.le_refl, and_self, true_implies, false_implies, not_true_eq_false, not_false_eq_true, pv_b0, pv_b01, pv_bn0, pv_b1, Bool.false_eq_true, Bool.true_eq_false, Bool.not_false, Bool.not_true, pv_bT, pv_bF, eq_self, hc, G.o, G.r36, G.t126, vp_nI (show f < 5 by omega) (show 5 < 2 ^ 31 by decide), nI_clamp (show f < 2 ^ 31 by omega), nI_1]
      refine ih (f + 1) _ (by omega) (fun o a => by rw [st_o a, f1 o a]) (fun e he => ?_)
      by_cases z : e = f
      · rw [z, st_at]
      · rw [st_k z]; exact L1 e (by omega)
  simp only [e139, z139_0, z139_2, z139_3, z139_4, z139_6, z139_7, z139_9, z139_10, pv_catN, pv_cat1, pv_cat2, pv_cat3, pv_catL, Option.toList, List.nil_append, List.cons_append, List.append_nil, pv_rfS, pn_i, pn_r, pn_n, pn_o, true_and, and_true, Nat.le_refl, and_self, true_implies, false_implies, not_true_eq_false, not_false_eq_true, pv_b0, pv_b01, pv_bn0, pv_b1, Bool.false_eq_true, Bool.true_eq_false, Bool.not_false, Bool.not_true, pv_bT, pv_bF, eq_self, c8N]
  exact l1 5 0 h rfl (fun _ _ => rfl) (fun e he => absurd he (Nat.not_lt_zero e))
