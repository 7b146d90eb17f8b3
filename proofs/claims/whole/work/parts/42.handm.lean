/-! at hand, the model -/
def rk (s : SS) : Nat → Nat → List Nat
  | 0, _ => []
  | n + 1, k => if th s k && decide (hd (sK s) k = k) then k :: rk s n (k + 1) else rk s n (k + 1)
theorem rk_mem {s : SS} {ρ : Nat} : ∀ {n k}, ρ ∈ rk s n k ↔ k ≤ ρ ∧ ρ < k + n ∧ th s ρ = true ∧ hd (sK s) ρ = ρ := by
  intro n
  induction n with
  | zero => intro k; simp [rk]; omega
  | succ n ih =>
    intro k
    unfold rk
    by_cases c : (th s k && decide (hd (sK s) k = k)) = true
    · rw [if_pos c, List.mem_cons, ih]
      have c := Bool.and_eq_true_iff.mp c
      have c2 := of_decide_eq_true c.2
      constructor
      · rintro (rfl | ⟨a, b, e⟩)
        · exact ⟨Nat.le_refl _, by omega, c.1, c2⟩
        · exact ⟨by omega, by omega, e⟩
      · rintro ⟨a, b, e⟩
        rcases Nat.eq_or_lt_of_le a with z | z
        · exact Or.inl z.symm
        · exact Or.inr ⟨by omega, by omega, e⟩
    · rw [if_neg c, ih]
      constructor
      · rintro ⟨a, b, e⟩
        exact ⟨by omega, by omega, e⟩
      · rintro ⟨a, b, e, e2⟩
        rcases Nat.eq_or_lt_of_le a with z | z
        · subst z
          exact absurd (by rw [e, decide_eq_true e2]; rfl) c
        · exact ⟨by omega, by omega, e, e2⟩
theorem rk_nodup (s : SS) : ∀ n k, (rk s n k).Nodup
  | 0, _ => List.nodup_nil
  | n + 1, k => by
    unfold rk
    split
    · refine List.nodup_cons.mpr ⟨fun h => ?_, rk_nodup s n (k + 1)⟩
      have := (rk_mem.mp h).1
      omega
    · exact rk_nodup s n (k + 1)
def hFit (t : ST) (s : SS) (ψ : Nat → Nat) : Nat → Bool
  | 0 => true
  | f + 1 => hFit t s ψ f && decide (hLoad t s ψ f ≤ tB t f)
theorem hFit_t {t : ST} {s : SS} {ψ : Nat → Nat} : ∀ {n}, hFit t s ψ n = true ↔ ∀ f, f < n → hLoad t s ψ f ≤ tB t f
  | 0 => by simp [hFit]
  | n + 1 => by
    unfold hFit
    rw [Bool.and_eq_true_iff, hFit_t, decide_eq_true_iff]
    constructor
    · rintro ⟨a, b⟩ f hf
      rcases Nat.lt_succ_iff_lt_or_eq.mp hf with z | z
      · exact a f z
      · rw [z]; exact b
    · intro h
      exact ⟨fun f hf => h f (by omega), h n (by omega)⟩
def hEv (t : ST) (s : SS) (ψ : Nat → Nat) (b : Nat) : Nat := if (hFit t s ψ (tF t) && decide (hCost t s ψ < b)) = true then hCost t s ψ else b
def en (t : ST) (s : SS) : List Nat → (Nat → Nat) → Nat → Nat
  | [], ψ, b => hEv t s ψ b
  | ρ :: l, ψ, b => fo (fun u b => en t s l (updN ψ ρ u) b) (tF t - sH s) (sH s) b
def SE (t : ST) (s : SS) (l : List Nat) (ψ : Nat → Nat) (c : Nat) : Prop := ∃ ψ' : Nat → Nat, (∀ ρ, ρ ∉ l → ψ' ρ = ψ ρ) ∧ (∀ ρ ∈ l, sH s ≤ ψ' ρ ∧ ψ' ρ < tF t) ∧ (∀ f, f < tF t → hLoad t s ψ' f ≤ tB t f) ∧ c = hCost t s ψ'
theorem en_mn {t : ST} {s : SS} : ∀ (l : List Nat) (ψ : Nat → Nat) (b : Nat), l.Nodup → sH s ≤ tF t → mn (SE t s l ψ) b (en t s l ψ b)
  | [], ψ, b, _, _ => by
    have h1 : ∀ c, SE t s [] ψ c → c = hCost t s ψ ∧ hFit t s ψ (tF t) = true := fun c ⟨ψ', a, _, d, e⟩ => by
      have : ψ' = ψ := funext fun ρ => a ρ (by simp)
      subst this
      exact ⟨e, hFit_t.mpr d⟩
    show mn _ b (hEv t s ψ b)
    unfold hEv
    by_cases c : (hFit t s ψ (tF t) && decide (hCost t s ψ < b)) = true
    · rw [if_pos c]
      have c := Bool.and_eq_true_iff.mp c
      have c2 := of_decide_eq_true c.2
      exact ⟨by omega, fun c hc => by rw [(h1 c hc).1]; exact Nat.le_refl _, Or.inr ⟨ψ, fun _ _ => rfl, by simp, hFit_t.mp c.1, rfl⟩⟩
    · rw [if_neg c]
      refine ⟨Nat.le_refl _, fun e he => ?_, Or.inl rfl⟩
      obtain ⟨a, d⟩ := h1 e he
      rw [d, Bool.true_and, decide_eq_true_iff] at c
      omega
  | ρ :: l, ψ, b, hnd, hw => by
    have hρ : ρ ∉ l := (List.nodup_cons.mp hnd).1
    refine mn_congr (S := fun c => ∃ u, sH s ≤ u ∧ u < sH s + (tF t - sH s) ∧ SE t s l (updN ψ ρ u) c) (fun c => ?_) (mn_fo _ _ _ (fun u b h1 h2 => en_mn l (updN ψ ρ u) b (List.nodup_cons.mp hnd).2 hw))
    constructor
    · rintro ⟨u, a1, a2, ψ', b1, b2, b3, b4⟩
      have e0 : ψ' ρ = u := by
        rw [b1 ρ hρ]
        unfold updN
        rw [if_pos rfl]
      refine ⟨ψ', fun a ha => ?_, fun a ha => ?_, b3, b4⟩
      · rw [List.mem_cons] at ha
        have n1 : a ≠ ρ := fun z => ha (Or.inl z)
        rw [b1 a (fun z => ha (Or.inr z))]
        unfold updN
        rw [if_neg n1]
      · rcases List.mem_cons.mp ha with z | z
        · rw [z, e0]; exact ⟨a1, by omega⟩
        · exact b2 a z
    · rintro ⟨ψ', b1, b2, b3, b4⟩
      have hr := b2 ρ (List.mem_cons_self ..)
      refine ⟨ψ' ρ, hr.1, by omega, ψ', fun a ha => ?_, fun a ha => b2 a (List.mem_cons_of_mem _ ha), b3, b4⟩
      unfold updN
      by_cases z : a = ρ
      · rw [if_pos z, z]
      · rw [if_neg z]
        exact b1 a (fun y => by rcases List.mem_cons.mp y with w | w; exact z w; exact ha w)
theorem hCost_congr {t : ST} {s : SS} (O : okS t s) {ψ ψ' : Nat → Nat} (h : ∀ ρ, ρ < tR t → th s ρ = true → hd (sK s) ρ = ρ → ψ ρ = ψ' ρ) : hCost t s ψ = hCost t s ψ' ∧ ∀ f, hLoad t s ψ f = hLoad t s ψ' f := by
  have h' : ∀ r, r < tR t → th s r = true → ψ (hd (sK s) r) = ψ' (hd (sK s) r) := fun r hr ht => h _ (Nat.lt_of_le_of_lt (hd_le _ _) hr) (by rw [th_hd O r hr]; exact ht) (hd_hd _ _)
  constructor
  · refine sm_congr (fun r hr => ?_)
    show (if th s r = true then tA t r * (ψ (hd (sK s) r) - sH s) else 0) = (if th s r = true then tA t r * (ψ' (hd (sK s) r) - sH s) else 0)
    by_cases c : th s r = true
    · rw [if_pos c, if_pos c, h' r hr c]
    · rw [if_neg c, if_neg c]
  · intro f
    refine sm_congr (fun r hr => ?_)
    show (if th s r = true then (if ψ (hd (sK s) r) = f then tW t r else 0) else 0) = (if th s r = true then (if ψ' (hd (sK s) r) = f then tW t r else 0) else 0)
    by_cases c : th s r = true
    · rw [if_pos c, if_pos c, h' r hr c]
    · rw [if_neg c, if_neg c]
def handM (x : SX) : Nat := en (xT x) (xS x) (rk (xS x) (tR (xT x)) 0) (fun _ => sH (xS x)) 99999
theorem handM_mn {x : SX} (O : okX x) : mn (SA (xT x) (xS x)) 99999 (handM x) := by
  refine mn_congr (fun c => ?_) (en_mn (rk (xS x) (tR (xT x)) 0) (fun _ => sH (xS x)) 99999 (rk_nodup _ _ _) O.S.2.2.1)
  constructor
  · rintro ⟨ψ, _, h2, h3, h4⟩
    exact ⟨ψ, fun ρ a b c => h2 ρ (rk_mem.mpr ⟨Nat.zero_le _, by omega, b, c⟩), h3, h4⟩
  · rintro ⟨ψ, h1, h2, h3⟩
    have hg := hCost_congr (ψ := fun ρ => if ρ ∈ rk (xS x) (tR (xT x)) 0 then ψ ρ else sH (xS x)) (ψ' := ψ) O.S (fun ρ a b c => by
      show (if ρ ∈ rk (xS x) (tR (xT x)) 0 then ψ ρ else sH (xS x)) = ψ ρ
      rw [if_pos (rk_mem.mpr ⟨Nat.zero_le _, by omega, b, c⟩)])
    refine ⟨fun ρ => if ρ ∈ rk (xS x) (tR (xT x)) 0 then ψ ρ else sH (xS x), fun ρ h => ?_, fun ρ h => ?_, fun f hf => ?_, ?_⟩
    · show (if ρ ∈ rk (xS x) (tR (xT x)) 0 then ψ ρ else sH (xS x)) = sH (xS x)
      rw [if_neg h]
    · show sH (xS x) ≤ (if ρ ∈ rk (xS x) (tR (xT x)) 0 then ψ ρ else sH (xS x)) ∧ (if ρ ∈ rk (xS x) (tR (xT x)) 0 then ψ ρ else sH (xS x)) < tF (xT x)
      rw [if_pos h]
      have := rk_mem.mp h
      exact h1 ρ (by omega) this.2.2.1 this.2.2.2
    · rw [hg.2 f]; exact h2 f hf
    · rw [hg.1]; exact h3
theorem handMN {x : SX} (O : okX x) : handM x = handN x := by
  obtain ⟨c, h1, h2⟩ := SA_now O.T O.S
  exact mn_uniq (handM_mn O) (handN_mn O) h2 (by omega) (by omega)
def hCN (t : ST) (s : SS) (ψ : Nat → Nat) (n : Nat) : Nat := sm (fun r => if th s r = true then tA t r * (ψ (hd (sK s) r) - sH s) else 0) n
def hLN (t : ST) (s : SS) (ψ : Nat → Nat) (f n : Nat) : Nat := sm (fun r => if th s r = true then (if ψ (hd (sK s) r) = f then tW t r else 0) else 0) n
theorem hCN_le {t : ST} {s : SS} {ψ : Nat → Nat} (T : okT t) (hψ : ∀ ρ, ψ ρ < tF t) {n : Nat} (hn : n ≤ tR t) : hCN t s ψ n ≤ 360 := by
  have hF := T.2.1
  have h := sm_le (f := fun r => if th s r = true then tA t r * (ψ (hd (sK s) r) - sH s) else 0) (b := 45) (n := n) (fun r hr => by
    have h1 := (T.2.2.2.1 r (by omega)).2.2.1
    have h2 := hψ (hd (sK s) r)
    show (if th s r = true then tA t r * (ψ (hd (sK s) r) - sH s) else 0) ≤ 45
    split
    · exact Nat.le_trans (Nat.mul_le_mul h1 (show ψ (hd (sK s) r) - sH s ≤ 5 by omega)) (by decide)
    · omega)
  have := T.2.2.1
  unfold hCN
  omega
theorem hLN_le {t : ST} {s : SS} {ψ : Nat → Nat} {f : Nat} (T : okT t) {n : Nat} (hn : n ≤ tR t) : hLN t s ψ f n ≤ 72 := by
  have h := sm_le (f := fun r => if th s r = true then (if ψ (hd (sK s) r) = f then tW t r else 0) else 0) (b := 9) (n := n) (fun r hr => by
    have h1 := (T.2.2.2.1 r (by omega)).2.1
    show (if th s r = true then (if ψ (hd (sK s) r) = f then tW t r else 0) else 0) ≤ 9
    split
    · split <;> omega
    · omega)
  have := T.2.2.1
  unfold hLN
  omega
def HS (h h0 : PvH) (x : SX) (ψ : Nat → Nat) : Prop := (∀ o, o ≠ 120 → o ≠ 126 → h o = h0 o) ∧ ∀ e, e < tR (xT x) → h 120 e = nI (if th (xS x) e = true then ψ (hd (sK (xS x)) e) else sP (xS x) e)
set_option maxHeartbeats 1000000 in
theorem m152_b {d : Nat} {P : PvP} {g : PvG} {h0 : PvH} {x : SX} (G : gM g) (M : cD h0 x) (O : okX x) {ψ : Nat → Nat} (hψ : ∀ ρ, sH (xS x) ≤ ψ ρ ∧ ψ ρ < tF (xT x)) {b : Nat} (hb : b ≤ 99999) {h : PvH} (H : HS h h0 x ψ) (hC : ∀ (h' : PvH) (w3 w4 w5 : Option Value), HS h' h0 x ψ → pv_E d 152 P 264 [some (.ref 102), some (.int (nI (hEv (xT x) (xS x) ψ b))), some (.int 1), w3, w4, w5] [.ref 102] 0 0 g h') : ∀ w3 w4 w5 : Option Value, pv_E d 152 P 95 [some (.ref 102), some (.int (nI b)), some (.int 1), w3, w4, w5] [] 0 0 g h := by
  have hR := O.R
  have hF := O.F
  have hcost := hCN_le (s := xS x) (ψ := ψ) O.T (fun ρ => (hψ ρ).2) (Nat.le_refl (tR (xT x)))
  have M1 : ∀ h1 : PvH, (∀ o, o ≠ 120 → o ≠ 126 → h1 o = h0 o) → cD h1 x := fun h1 f => M.fr (fun o a b => f o (by omega) (by omega)) (fun k _ => by rw [f 102 (by omega) (by omega)])
  -- the third loop: what is borne
  have l3 : ∀ n f (w : Bool) (h1 : PvH), f + n = tF (xT x) → w = hFit (xT x) (xS x) ψ f → HS h1 h0 x ψ → (∀ f, f < 5 → h1 126 f = nI (hLoad (xT x) (xS x) ψ f)) → pv_E d 152 P 203 [some (.ref 102), some (.int (nI b)), some (.int 1), some (.int (nI (hCost (xT x) (xS x) ψ))), some (.int (pv_b w)), some (.int (nI f))] [] 0 0 g h1 := by
    intro n
    induction n with
    | zero =>
      intro f w h1 hf hw H1 L1
      have hf : f = tF (xT x) := hf
      subst hf
      have N := M1 h1 H1.1
      have hcl : (nI b ≤ nI (hCost (xT x) (xS x) ψ)) = (b ≤ hCost (xT x) (xS x) ψ) := nI_le' (by omega) (by have : hCost (xT x) (xS x) ψ ≤ 360 := hcost; omega)
      rw [z152_203]
      simp only [z152_205, z152_206, z152_209, z152_247, z152_249, z152_252, z152_253, z152_254, z152_257, z152_258, z152_261, z152_262, z152_263, pv_catN, pv_cat1, pv_cat2, pv_cat3, pv_catL, Option.toList, List.nil_append, List.cons_append, List.append_nil, pv_rfS, pn_i, pn_r, pn_n, pn_o, true_and, and_true, Nat.le_refl, and_self, true_implies, false_implies, not_true_eq_false, not_false_eq_true, pv_b0, pv_b01, pv_bn0, pv_b1, Bool.false_eq_true, Bool.true_eq_false, Bool.not_false, Bool.not_true, pv_bT, pv_bF, eq_self, G.o, N.M.F, nI_le' (show tF (xT x) < 2 ^ 31 by omega) (show tF (xT x) < 2 ^ 31 by omega), hcl]
      refine br (fun c => ?_) (fun c => ⟨fun c2 => ?_, fun c2 => ?_⟩)
      · have e : hEv (xT x) (xS x) ψ b = b := by unfold hEv; rw [← hw, c]; rfl
        rw [e] at hC
        exact hC h1 _ _ _ H1
      · have e : hEv (xT x) (xS x) ψ b = b := by unfold hEv; rw [decide_eq_false (show ¬ hCost (xT x) (xS x) ψ < b by omega), Bool.and_false]; rfl
        rw [e] at hC
        exact hC h1 _ _ _ H1
      · have e : hEv (xT x) (xS x) ψ b = hCost (xT x) (xS x) ψ := by unfold hEv; rw [← hw, c, decide_eq_true (show hCost (xT x) (xS x) ψ < b by omega)]; rfl
        rw [e] at hC
        exact hC h1 _ _ _ H1
    | succ n ih =>
      intro f w h1 hf hw H1 L1
      have hfF : f < tF (xT x) := by omega
      have N := M1 h1 H1.1
      have hB := O.T.2.2.2.2 f hfF
      have hL : hLoad (xT x) (xS x) ψ f ≤ 72 := hLN_le O.T (Nat.le_refl _)
      have e : hFit (xT x) (xS x) ψ (f + 1) = (hFit (xT x) (xS x) ψ f && decide (hLoad (xT x) (xS x) ψ f ≤ tB (xT x) f)) := rfl
      rw [z152_203]
      simp only [z152_205, z152_206, z152_209, z152_212, z152_214, z152_217, z152_218, z152_221, z152_223, z152_224, z152_225, z152_228, z152_230, z152_231, z152_234, z152_235, z152_238, z152_239, z152_241, z152_244, pv_catN, pv_cat1, pv_cat2, pv_cat3, pv_catL, Option.toList, List.nil_append, List.cons_append, List.append_nil, pv_rfS, pn_i, pn_r, pn_n, pn_o, true_and, and_true, Nat.le_refl, and_self, true_implies, false_implies, not_true_eq_false, not_false_eq_true, pv_b0, pv_b01, pv_bn0, pv_b1, Bool.false_eq_true, Bool.true_eq_false, Bool.not_false, Bool.not_true, pv_bT, pv_bF, eq_self, G.o, N.M.F, nI_le' (show tF (xT x) < 2 ^ 31 by omega) (show f < 2 ^ 31 by omega), show (tF (xT x) ≤ f) = False from eq_false (by omega), G.r36, G.t126, G.r5, G.t104, vp_nI (show f < 5 by omega) (show 5 < 2 ^ 31 by decide), nI_clamp (show f < 2 ^ 31 by omega), L1 f (by omega), N.M.B f hfF, nI_lt' (show tB (xT x) f < 2 ^ 31 by omega) (show hLoad (xT x) (xS x) ψ f < 2 ^ 31 by omega), nI_1]
      refine br (fun c => ?_) (fun c => ⟨fun c2 => ?_, fun c2 => ?_⟩)
      · exact ih (f + 1) false h1 (by omega) (by rw [e, ← hw, c]; rfl) H1 L1
      · exact ih (f + 1) false h1 (by omega) (by rw [e, decide_eq_false (show ¬ hLoad (xT x) (xS x) ψ f ≤ tB (xT x) f by omega), Bool.and_false]) H1 L1
      · exact ih (f + 1) true h1 (by omega) (by rw [e, ← hw, c, decide_eq_true (show hLoad (xT x) (xS x) ψ f ≤ tB (xT x) f by omega)]; rfl) H1 L1
  -- the second loop: the sums
  have l2 : ∀ n r (w5 : Option Value) (h1 : PvH), r + n = tR (xT x) → HS h1 h0 x ψ → (∀ f, f < 5 → h1 126 f = nI (hLN (xT x) (xS x) ψ f r)) → pv_E d 152 P 127 [some (.ref 102), some (.int (nI b)), some (.int 1), some (.int (nI (hCN (xT x) (xS x) ψ r))), some (.int (nI r)), w5] [] 0 0 g h1 := by
    intro n
    induction n with
    | zero =>
      intro r w5 h1 hr H1 L1
      have hr : r = tR (xT x) := hr
      subst hr
      have N := M1 h1 H1.1
      rw [z152_127]
      simp only [z152_129, z152_130, z152_133, z152_197, z152_198, z152_200, z152_201, pv_catN, pv_cat1, pv_cat2, pv_cat3, pv_catL, Option.toList, List.nil_append, List.cons_append, List.append_nil, pv_rfS, pn_i, pn_r, pn_n, pn_o, true_and, and_true, Nat.le_refl, and_self, true_implies, false_implies, not_true_eq_false, not_false_eq_true, pv_b0, pv_b01, pv_bn0, pv_b1, Bool.false_eq_true, Bool.true_eq_false, Bool.not_false, Bool.not_true, pv_bT, pv_bF, eq_self, G.o, N.M.R, nI_le' (show tR (xT x) < 2 ^ 31 by omega) (show tR (xT x) < 2 ^ 31 by omega)]
      exact l3 (tF (xT x)) 0 true h1 (Nat.zero_add _) rfl H1 L1
    | succ n ih =>
      intro r w5 h1 hr H1 L1
      have hrR : r < tR (xT x) := by omega
      have N := M1 h1 H1.1
      have e1 : hCN (xT x) (xS x) ψ (r + 1) = hCN (xT x) (xS x) ψ r + (if th (xS x) r = true then tA (xT x) r * (ψ (hd (sK (xS x)) r) - sH (xS x)) else 0) := rfl
      have e2 : ∀ f, hLN (xT x) (xS x) ψ f (r + 1) = hLN (xT x) (xS x) ψ f r + (if th (xS x) r = true then (if ψ (hd (sK (xS x)) r) = f then tW (xT x) r else 0) else 0) := fun f => rfl
      rw [z152_127]
      simp only [z152_129, z152_130, z152_133, z152_136, z152_137, z152_140, z152_142, z152_143, z152_191, z152_194, pv_catN, pv_cat1, pv_cat2, pv_cat3, pv_catL, Option.toList, List.nil_append, List.cons_append, List.append_nil, pv_rfS, pn_i, pn_r, pn_n, pn_o, true_and, and_true, Nat.le_refl, and_self, true_implies, false_implies, not_true_eq_false, not_false_eq_true, pv_b0, pv_b01, pv_bn0, pv_b1, Bool.false_eq_true, Bool.true_eq_false, Bool.not_false, Bool.not_true, pv_bT, pv_bF, eq_self, G.o, N.M.R, nI_le' (show tR (xT x) < 2 ^ 31 by omega) (show r < 2 ^ 31 by omega), show (tR (xT x) ≤ r) = False from eq_false (by omega), G.r12, G.t110, vp_nI (show r < 8 by omega) (show 8 < 2 ^ 31 by decide), nI_clamp (show r < 2 ^ 31 by omega), N.M.D r hrR, nI_1]
      refine ⟨fun c => ?_, fun c => ?_⟩
      · have c : (sD (xS x)).testBit r = true := by simpa using c
        have ct : ¬ th (xS x) r = true := by unfold th; rw [c]; decide
        have := ih (r + 1) w5 h1 (by omega) H1 (fun f hf => by rw [e2, if_neg ct, Nat.add_zero]; exact L1 f hf)
        rw [e1, if_neg ct, Nat.add_zero] at this
        exact this
      · have c : (sD (xS x)).testBit r = false := by simpa using c
        have ct : th (xS x) r = true := by unfold th; rw [c]; rfl
        have hp := hψ (hd (sK (xS x)) r)
        have e120 : h1 120 r = nI (ψ (hd (sK (xS x)) r)) := by rw [H1.2 r hrR, if_pos ct]
        have es : nI (ψ (hd (sK (xS x)) r)) - nI (sH (xS x)) = nI (ψ (hd (sK (xS x)) r) - sH (xS x)) := pk_sub hp.1
        simp only [z152_146, z152_147, z152_148, z152_151, z152_153, z152_154, z152_155, z152_158, z152_160, z152_161, z152_162, z152_165, z152_166, z152_167, z152_168, z152_169, z152_170, z152_173, z152_174, z152_177, z152_179, z152_180, z152_181, z152_182, z152_183, z152_186, z152_188, z152_189, z152_190, z152_191, z152_194, pv_catN, pv_cat1, pv_cat2, pv_cat3, pv_catL, Option.toList, List.nil_append, List.cons_append, List.append_nil, pv_rfS, pn_i, pn_r, pn_n, pn_o, true_and, and_true, Nat.le_refl, and_self, true_implies, false_implies, not_true_eq_false, not_false_eq_true, pv_b0, pv_b01, pv_bn0, pv_b1, Bool.false_eq_true, Bool.true_eq_false, Bool.not_false, Bool.not_true, pv_bT, pv_bF, eq_self, G.o, G.r9, G.t107, G.r28, G.t120, G.r36, G.t126, G.r7, G.t105, vp_nI (show r < 8 by omega) (show 8 < 2 ^ 31 by decide), vp_nI (show r < 32 by omega) (show 32 < 2 ^ 31 by decide), nI_clamp (show r < 2 ^ 31 by omega), e120, N.M.A r hrR, N.M.H, N.M.W r hrR, es, pk_mul, nI_add, vp_nI (show ψ (hd (sK (xS x)) r) < 5 by omega) (show 5 < 2 ^ 31 by decide), nI_clamp (show ψ (hd (sK (xS x)) r) < 2 ^ 31 by omega), L1 _ (show ψ (hd (sK (xS x)) r) < 5 by omega), nI_1]
        have := ih (r + 1) w5 (pv_st h1 126 (ψ (hd (sK (xS x)) r)) (nI (hLN (xT x) (xS x) ψ (ψ (hd (sK (xS x)) r)) r + tW (xT x) r))) (by omega) ⟨fun o a b => by rw [st_o b, H1.1 o a b], fun e he => by rw [st_o (by omega)]; exact H1.2 e he⟩ (fun f hf => by
          rw [e2, if_pos ct]
          by_cases z : f = ψ (hd (sK (xS x)) r)
          · rw [z, st_at, if_pos rfl]
          · rw [st_k z, if_neg (fun y => z y.symm), Nat.add_zero]
            exact L1 f hf)
        rw [e1, if_pos ct] at this
        exact this
  -- the first loop: empty floors
  have l1 : ∀ n f (w5 : Option Value) (h1 : PvH), f + n = 5 → HS h1 h0 x ψ → (∀ e, e < f → h1 126 e = 0) → pv_E d 152 P 104 [some (.ref 102), some (.int (nI b)), some (.int 1), some (.int 0), some (.int (nI f)), w5] [] 0 0 g h1 := by
    intro n
    induction n with
    | zero =>
      intro f w5 h1 hf H1 L1
      have hf : f = 5 := hf
      subst hf
      rw [z152_104]
      simp only [z152_106, z152_107, z152_124, z152_125, pv_catN, pv_cat1, pv_cat2, pv_cat3, pv_catL, Option.toList, List.nil_append, List.cons_append, List.append_nil, pv_rfS, pn_i, pn_r, pn_n, pn_o, true_and, and_true, Nat.le_refl, and_self, true_implies, false_implies, not_true_eq_false, not_false_eq_true, pv_b0, pv_b01, pv_bn0, pv_b1, Bool.false_eq_true, Bool.true_eq_false, Bool.not_false, Bool.not_true, pv_bT, pv_bF, eq_self, show ((5 : Int32) ≤ nI 5) = True from eq_true (by decide)]
      exact l2 (tR (xT x)) 0 w5 h1 (Nat.zero_add _) H1 (fun f hf => L1 f hf)
    | succ n ih =>
      intro f w5 h1 hf H1 L1
      have hc : ((5 : Int32) ≤ nI f) = False := eq_false (by rw [show (5 : Int32) = nI 5 from rfl, nI_le' (by decide) (by omega)]; omega)
      rw [z152_104]
      simp only [z152_106, z152_107, z152_110, z152_111, z152_114, z152_116, z152_117, z152_118, z152_121, pv_catN, pv_cat1, pv_cat2, pv_cat3, pv_catL, Option.toList, List.nil_append, List.cons_append, List.append_nil, pv_rfS, pn_i, pn_r, pn_n, pn_o, true_and, and_true, Nat.le_refl, and_self, true_implies, false_implies, not_true_eq_false, not_false_eq_true, pv_b0, pv_b01, pv_bn0, pv_b1, Bool.false_eq_true, Bool.true_eq_false, Bool.not_false, Bool.not_true, pv_bT, pv_bF, eq_self, hc, G.o, G.r36, G.t126, vp_nI (show f < 5 by omega) (show 5 < 2 ^ 31 by decide), nI_clamp (show f < 2 ^ 31 by omega), nI_1]
      refine ih (f + 1) w5 _ (by omega) ⟨fun o a b => by rw [st_o b, H1.1 o a b], fun e he => by rw [st_o (by omega)]; exact H1.2 e he⟩ (fun e he => ?_)
      by_cases z : e = f
      · rw [z, st_at]
      · rw [st_k z]; exact L1 e (by omega)
  intro w3 w4 w5
  rw [z152_95]
  simp only [z152_96, z152_99, z152_100, z152_101, z152_102, pv_catN, pv_cat1, pv_cat2, pv_cat3, pv_catL, Option.toList, List.nil_append, List.cons_append, List.append_nil, pv_rfS, pn_i, pn_r, pn_n, pn_o, true_and, and_true, Nat.le_refl, and_self, true_implies, false_implies, not_true_eq_false, not_false_eq_true, pv_b0, pv_b01, pv_bn0, pv_b1, Bool.false_eq_true, Bool.true_eq_false, Bool.not_false, Bool.not_true, pv_bT, pv_bF, eq_self, show ((1 : Int32) = 0) = False from eq_false (by decide)]
  exact l1 5 0 w5 h rfl H (fun e he => absurd he (Nat.not_lt_zero e))
