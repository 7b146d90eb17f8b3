/-! plans: pure -/
abbrev PB : Type := Nat × Nat × (Nat → Nat)
def fob (g : Nat → PB → PB) : Nat → Nat → PB → PB
  | 0, _, b => b
  | n + 1, t, b => fob g n (t + 1) (g t b)
theorem fob_id {g : Nat → PB → PB} {b : PB} : ∀ n t, (∀ u, t ≤ u → u < t + n → g u b = b) → fob g n t b = b
  | 0, _, _ => rfl
  | n + 1, t, h => by
    show fob g n (t + 1) (g t b) = b
    rw [h t (Nat.le_refl _) (by omega)]
    exact fob_id n (t + 1) (fun u h1 h2 => h u (by omega) (by omega))
theorem fob_inv {g : Nat → PB → PB} {Q : PB → Prop} : ∀ n t b, (∀ u b, t ≤ u → u < t + n → Q b → Q (g u b)) → Q b → Q (fob g n t b)
  | 0, _, _, _, h => h
  | n + 1, t, b, h, hb => by
    show Q (fob g n (t + 1) (g t b))
    exact fob_inv n (t + 1) _ (fun u b h1 h2 => h u b (by omega) (by omega)) (h t b (Nat.le_refl _) (by omega) hb)
theorem fob_congr {g k : Nat → PB → PB} : ∀ n t b, (∀ u b, t ≤ u → u < t + n → g u b = k u b) → fob g n t b = fob k n t b
  | 0, _, _, _ => rfl
  | n + 1, t, b, h => by
    show fob g n (t + 1) (g t b) = fob k n (t + 1) (k t b)
    rw [h t b (Nat.le_refl _) (by omega)]
    exact fob_congr n (t + 1) _ (fun u b h1 h2 => h u b (by omega) (by omega))
def wor (t : ST) (s : SS) (ρ k : Nat) : Nat := sm (fun r => if (grp s ρ (tR t)).testBit r then (if sK s r = 2 then 0 else sV s r - (if sK s r = 1 then 0 else k)) else 0) (tR t)
def pUp (b : PB) (k sp : Nat) (row : Nat → Nat) : PB := if decide (b.1 < k + 1 ∨ (b.1 = k + 1 ∧ sp < b.2.1)) = true then (k + 1, sp, row) else b
def pKept (t : ST) (s : SS) (D : Nat) (ψ δ : Nat → Nat) : Nat := ls (fun ρ => if ψ ρ < sH s + D then 0 else wor t s ρ (δ ρ)) (rp s (tR t))
def tCost (t : ST) (s : SS) (D : Nat) (φ ψ : Nat → Nat) (ρ : Nat) : Nat := if φ ρ < sH s + D then 0 else (ψ ρ - φ ρ) * gW t s ρ
def tLoad (t : ST) (s : SS) (D : Nat) (φ ψ : Nat → Nat) (f ρ : Nat) : Nat := if φ ρ < sH s + D then 0 else if ψ ρ = f then gW t s ρ else 0
def pCost (t : ST) (s : SS) (D : Nat) (φ ψ : Nat → Nat) : Nat := ls (tCost t s D φ ψ) (rp s (tR t))
def pLoad (t : ST) (s : SS) (D : Nat) (φ ψ : Nat → Nat) (f : Nat) : Nat := ls (tLoad t s D φ ψ f) (rp s (tR t))
def pLim (s : SS) (D : Nat) : Nat := if D = 0 then sL s else sE s
def pFit (t : ST) (s : SS) (D : Nat) (φ ψ : Nat → Nat) : Nat → Bool
  | 0 => true
  | f + 1 => pFit t s D φ ψ f && decide (pLoad t s D φ ψ f ≤ tB t f)
theorem pFit_t {t : ST} {s : SS} {D : Nat} {φ ψ : Nat → Nat} : ∀ {n}, pFit t s D φ ψ n = true ↔ ∀ f, f < n → pLoad t s D φ ψ f ≤ tB t f
  | 0 => by simp [pFit]
  | n + 1 => by
    unfold pFit
    rw [Bool.and_eq_true_iff, pFit_t, decide_eq_true_iff]
    constructor
    · rintro ⟨a, b⟩ f hf
      rcases Nat.lt_succ_iff_lt_or_eq.mp hf with z | z
      · exact a f z
      · rw [z]; exact b
    · intro h
      exact ⟨fun f hf => h f (by omega), h n (by omega)⟩
def pOk (t : ST) (s : SS) (D : Nat) (φ ψ : Nat → Nat) : Bool := decide (pCost t s D φ ψ ≤ pLim s D) && pFit t s D φ ψ (tF t)
def dUp (wet u k : Nat) : Nat := if u = wet + 1 then k + 1 else k
def enF (t : ST) (s : SS) (D : Nat) (leaf : (Nat → Nat) → (Nat → Nat) → PB → PB) : List Nat → (Nat → Nat) → (Nat → Nat) → PB → PB
  | [], ψ, δ, b => leaf ψ δ b
  | ρ :: l, ψ, δ, b => if ψ ρ < sH s + D then enF t s D leaf l ψ δ b else fob (fun u b => enF t s D leaf l (updN ψ ρ u) (updN δ ρ (dUp (sH s + D) u (δ ρ))) b) (tF t - ψ ρ) (ψ ρ) b
def pP (t : ST) (s : SS) : Nat → Nat → (Nat → Nat) → (Nat → Nat) → Nat → (Nat → Nat) → PB → PB
  | 0, D, ψ, δ, sp, row, b => pUp b (pKept t s D ψ δ) sp row
  | n + 1, D, φ, δ, sp, row, b => enF t s D (fun ψ' δ' b => if pOk t s D φ ψ' = true then pP t s n (D + 1) ψ' δ' (sp + pCost t s D φ ψ') (if D = 0 then ψ' else row) b else b) (rp s (tR t)) φ δ b
def pLf (t : ST) (s : SS) (n D : Nat) (φ : Nat → Nat) (sp : Nat) (row : Nat → Nat) : (Nat → Nat) → (Nat → Nat) → PB → PB := fun ψ' δ' b => if pOk t s D φ ψ' = true then pP t s n (D + 1) ψ' δ' (sp + pCost t s D φ ψ') (if D = 0 then ψ' else row) b else b
theorem enF_id {t : ST} {s : SS} {D : Nat} {leaf : (Nat → Nat) → (Nat → Nat) → PB → PB} {b : PB} : ∀ (l : List Nat) (ψ δ : Nat → Nat), (∀ ψ' δ', (∀ ρ, ρ ∉ l → ψ' ρ = ψ ρ) → leaf ψ' δ' b = b) → enF t s D leaf l ψ δ b = b
  | [], ψ, δ, h => h ψ δ (fun _ _ => rfl)
  | ρ :: l, ψ, δ, h => by
    unfold enF
    split
    · exact enF_id l ψ δ (fun ψ' δ' h' => h ψ' δ' (fun a ha => h' a (fun z => ha (List.mem_cons_of_mem _ z))))
    · refine fob_id _ _ (fun u _ _ => enF_id l _ _ (fun ψ' δ' h' => h ψ' δ' (fun a ha => ?_)))
      have n1 : a ≠ ρ := fun z => ha (z ▸ List.mem_cons_self ..)
      rw [h' a (fun z => ha (List.mem_cons_of_mem _ z))]
      unfold updN
      rw [if_neg n1]
theorem enF_inv {t : ST} {s : SS} {D : Nat} {leaf : (Nat → Nat) → (Nat → Nat) → PB → PB} {Q : PB → Prop} : ∀ (l : List Nat) (ψ δ : Nat → Nat) (b : PB), (∀ ψ' δ' b, Q b → Q (leaf ψ' δ' b)) → Q b → Q (enF t s D leaf l ψ δ b)
  | [], ψ, δ, b, h, hb => h ψ δ b hb
  | ρ :: l, ψ, δ, b, h, hb => by
    unfold enF
    split
    · exact enF_inv l ψ δ b h hb
    · exact fob_inv _ _ _ (fun u b _ _ hb => enF_inv l _ _ b h hb) hb
/-- no plan from here on is better -/
def pNo (b : PB) (H C : Nat) : Prop := H + 1 < b.1 ∨ (H + 1 = b.1 ∧ b.2.1 ≤ C)
theorem pNo_up {b : PB} {H C H' C' : Nat} (h : pNo b H C) (h1 : H' ≤ H) (h2 : C ≤ C') : pNo b H' C' := by
  unfold pNo at h ⊢
  omega
theorem pUp_no {b : PB} {H C : Nat} {row : Nat → Nat} (h : pNo b H C) : pUp b H C row = b := by
  unfold pUp
  unfold pNo at h
  rw [decide_eq_false (by omega)]
  rfl
theorem pUp_yes {b : PB} {H C : Nat} {row : Nat → Nat} (h : ¬ pNo b H C) : pUp b H C row = (H + 1, C, row) := by
  unfold pUp
  unfold pNo at h
  rw [decide_eq_true (by omega)]
  rfl
theorem wor_le {t : ST} {s : SS} {ρ j k : Nat} (h : j ≤ k) : wor t s ρ k ≤ wor t s ρ j := by
  unfold wor
  have : ∀ n, sm (fun r => if (grp s ρ (tR t)).testBit r then (if sK s r = 2 then 0 else sV s r - (if sK s r = 1 then 0 else k)) else 0) n ≤ sm (fun r => if (grp s ρ (tR t)).testBit r then (if sK s r = 2 then 0 else sV s r - (if sK s r = 1 then 0 else j)) else 0) n := by
    intro n
    induction n with
    | zero => exact Nat.le_refl _
    | succ n ih =>
      refine Nat.add_le_add ih ?_
      show (if (grp s ρ (tR t)).testBit n then (if sK s n = 2 then 0 else sV s n - (if sK s n = 1 then 0 else k)) else 0) ≤ (if (grp s ρ (tR t)).testBit n then (if sK s n = 2 then 0 else sV s n - (if sK s n = 1 then 0 else j)) else 0)
      repeat' split
      all_goals omega
  exact this _
theorem dUp_ge (w u k : Nat) : k ≤ dUp w u k := by
  unfold dUp
  split <;> omega
theorem ls_app {f : Nat → Nat} {a b : List Nat} : ls f (a ++ b) = ls f a + ls f b := by simp [ls]
theorem ls_one {f : Nat → Nat} {a : Nat} : ls f [a] = f a := by simp [ls]
/-- what would be kept if nothing more were lost; l: still to be placed in this decade -/
def pH (t : ST) (s : SS) (D : Nat) (p l : List Nat) (ψ δ : Nat → Nat) : Nat := ls (fun ρ => if ψ ρ < sH s + D then 0 else wor t s ρ (δ ρ)) l + ls (fun ρ => if ψ ρ < sH s + (D + 1) then 0 else wor t s ρ (δ ρ)) p
theorem pH_dead {t : ST} {s : SS} {D ρ : Nat} {p l : List Nat} {ψ δ : Nat → Nat} (h : ψ ρ < sH s + D) : pH t s D (p ++ [ρ]) l ψ δ = pH t s D p (ρ :: l) ψ δ := by
  unfold pH
  rw [ls_app, ls_one, ls_cons, if_pos h, if_pos (by omega)]
  omega
theorem pH_go {t : ST} {s : SS} {D ρ u k : Nat} {p l : List Nat} {ψ δ : Nat → Nat} (h : ¬ ψ ρ < sH s + D) (hp : ρ ∉ p) (hl : ρ ∉ l) : pH t s D (p ++ [ρ]) l (updN ψ ρ u) (updN δ ρ k) + wor t s ρ (δ ρ) = pH t s D p (ρ :: l) ψ δ + (if u < sH s + (D + 1) then 0 else wor t s ρ k) := by
  have e1 : ∀ m : List Nat, ρ ∉ m → ∀ w, ls (fun a => if updN ψ ρ u a < w then 0 else wor t s a (updN δ ρ k a)) m = ls (fun a => if ψ a < w then 0 else wor t s a (δ a)) m := fun m hm w => by
    refine ls_congr (fun a ha => ?_)
    have n1 : a ≠ ρ := fun z => hm (z ▸ ha)
    show (if updN ψ ρ u a < w then 0 else wor t s a (updN δ ρ k a)) = _
    unfold updN
    rw [if_neg n1, if_neg n1]
  unfold pH
  rw [ls_app, ls_one, ls_cons, e1 l hl, e1 p hp, if_neg h]
  have e2 : updN ψ ρ u ρ = u := by unfold updN; rw [if_pos rfl]
  have e3 : updN δ ρ k ρ = k := by unfold updN; rw [if_pos rfl]
  rw [e2, e3]
  omega
theorem enF_no {t : ST} {s : SS} {n : Nat} (ih : ∀ (D : Nat) (ψ δ : Nat → Nat) (sp : Nat) (row : Nat → Nat) (b : PB), pNo b (pKept t s D ψ δ) sp → pP t s n D ψ δ sp row b = b) {D : Nat} {φ : Nat → Nat} {sp : Nat} {row : Nat → Nat} {b : PB} : ∀ (l p : List Nat) (ψ δ : Nat → Nat), rp s (tR t) = p ++ l → (∀ ρ ∈ l, ψ ρ = φ ρ) → pNo b (pH t s D p l ψ δ) (sp + ls (tCost t s D φ ψ) p) → enF t s D (pLf t s n D φ sp row) l ψ δ b = b
  | [], p, ψ, δ, hr, hl, hn => by
    show pLf t s n D φ sp row ψ δ b = b
    unfold pLf
    rw [List.append_nil] at hr
    split
    · refine ih _ _ _ _ _ _ ?_
      unfold pKept pCost
      rw [hr]
      unfold pH at hn
      have e0 : ls (fun ρ => if ψ ρ < sH s + D then 0 else wor t s ρ (δ ρ)) [] = 0 := rfl
      rw [e0, Nat.zero_add] at hn
      exact hn
    · rfl
  | ρ :: l, p, ψ, δ, hr, hl, hn => by
    have hnd := rp_nodup s (tR t)
    rw [hr, List.nodup_append] at hnd
    have hρl : ρ ∉ l := (List.nodup_cons.mp hnd.2.1).1
    have hρp : ρ ∉ p := fun z => hnd.2.2 ρ z ρ (List.mem_cons_self ..) rfl
    have hr2 : rp s (tR t) = (p ++ [ρ]) ++ l := by rw [hr]; simp
    have hψρ := hl ρ (List.mem_cons_self ..)
    unfold enF
    by_cases c : ψ ρ < sH s + D
    · rw [if_pos c]
      refine enF_no ih l (p ++ [ρ]) ψ δ hr2 (fun a ha => hl a (List.mem_cons_of_mem _ ha)) ?_
      rw [pH_dead c, ls_app, ls_one]
      have : tCost t s D φ ψ ρ = 0 := by unfold tCost; rw [if_pos (by omega)]
      rw [this, Nat.add_zero]
      exact hn
    · rw [if_neg c]
      refine fob_id _ _ (fun u h1 h2 => enF_no ih l (p ++ [ρ]) _ _ hr2 (fun a ha => ?_) (pNo_up hn ?_ ?_))
      · have n1 : a ≠ ρ := fun z => hρl (z ▸ ha)
        unfold updN
        rw [if_neg n1]
        exact hl a (List.mem_cons_of_mem _ ha)
      · have := pH_go (t := t) (u := u) (k := dUp (sH s + D) u (δ ρ)) (δ := δ) c hρp hρl
        have h3 := wor_le (t := t) (s := s) (ρ := ρ) (dUp_ge (sH s + D) u (δ ρ))
        split at this <;> omega
      · rw [ls_app]
        have e : ls (tCost t s D φ (updN ψ ρ u)) p = ls (tCost t s D φ ψ) p := ls_congr (fun a ha => by
          have n1 : a ≠ ρ := fun z => hρp (z ▸ ha)
          unfold tCost updN
          rw [if_neg n1])
        rw [e]
        omega
theorem pP_no {t : ST} {s : SS} : ∀ (n D : Nat) (ψ δ : Nat → Nat) (sp : Nat) (row : Nat → Nat) (b : PB), pNo b (pKept t s D ψ δ) sp → pP t s n D ψ δ sp row b = b
  | 0, D, ψ, δ, sp, row, b, h => pUp_no h
  | n + 1, D, ψ, δ, sp, row, b, h => by
    show enF t s D (pLf t s n D ψ sp row) (rp s (tR t)) ψ δ b = b
    refine enF_no (pP_no n) (rp s (tR t)) [] ψ δ rfl (fun _ _ => rfl) ?_
    have e : pH t s D [] (rp s (tR t)) ψ δ = pKept t s D ψ δ := by
      unfold pH pKept
      rfl
    rw [e]
    exact h
def pBk (b : PB) : Prop := b.1 ≤ 600 ∧ b.2.1 ≤ 400
theorem ls_le {f : Nat → Nat} {c : Nat} : ∀ {l : List Nat}, (∀ a ∈ l, f a ≤ c) → ls f l ≤ c * l.length
  | [], _ => Nat.zero_le _
  | a :: l, h => by
    rw [ls_cons, List.length_cons, Nat.mul_add, Nat.mul_one]
    have h1 := h a (List.mem_cons_self ..)
    have h2 := ls_le (f := f) (c := c) (l := l) (fun b hb => h b (List.mem_cons_of_mem _ hb))
    omega
theorem wor_72 {t : ST} {s : SS} (T : okT t) (O : okS t s) (ρ k : Nat) : wor t s ρ k ≤ 72 := by
  have h := sm_le (f := fun r => if (grp s ρ (tR t)).testBit r then (if sK s r = 2 then 0 else sV s r - (if sK s r = 1 then 0 else k)) else 0) (b := 9) (n := tR t) (fun r hr => by
    have := (O.1 r hr).2.1
    show (if (grp s ρ (tR t)).testBit r then (if sK s r = 2 then 0 else sV s r - (if sK s r = 1 then 0 else k)) else 0) ≤ 9
    split
    · split <;> omega
    · omega)
  have := T.2.2.1
  unfold wor
  omega
theorem pKept_le {t : ST} {s : SS} (T : okT t) (O : okS t s) (D : Nat) (ψ δ : Nat → Nat) : pKept t s D ψ δ ≤ 576 := by
  have h := ls_le (f := fun ρ => if ψ ρ < sH s + D then 0 else wor t s ρ (δ ρ)) (c := 72) (l := rp s (tR t)) (fun a ha => by
    have := wor_72 T O a (δ a)
    show (if ψ a < sH s + D then 0 else wor t s a (δ a)) ≤ 72
    split <;> omega)
  have h2 := rp_len s (tR t)
  have := T.2.2.1
  have h3 : 72 * (rp s (tR t)).length ≤ 72 * 8 := Nat.mul_le_mul (Nat.le_refl _) (by omega)
  unfold pKept
  omega
theorem pLim_le {t : ST} {s : SS} (O : okS t s) (D : Nat) : pLim s D ≤ 99 := by
  have h1 := O.2.2.2.1
  have h2 := O.2.2.2.2.1
  unfold pLim
  split <;> omega
theorem pP_bk {t : ST} {s : SS} (T : okT t) (O : okS t s) : ∀ (n D : Nat) (ψ δ : Nat → Nat) (sp : Nat) (row : Nat → Nat) (b : PB), sp + 99 * n ≤ 400 → pBk b → pBk (pP t s n D ψ δ sp row b)
  | 0, D, ψ, δ, sp, row, b, hs, hb => by
    show pBk (pUp b _ _ _)
    unfold pUp
    have := pKept_le T O D ψ δ
    split
    · exact ⟨by show _ + 1 ≤ 600; omega, by show sp ≤ 400; omega⟩
    · exact hb
  | n + 1, D, ψ, δ, sp, row, b, hs, hb => by
    refine enF_inv (Q := pBk) _ _ _ _ (fun ψ' δ' b hb => ?_) hb
    split
    · rename_i c
      unfold pOk at c
      have c := of_decide_eq_true (Bool.and_eq_true_iff.mp c).1
      have := pLim_le O D
      exact pP_bk T O n _ _ _ _ _ _ (by omega) hb
    · exact hb
theorem pP_up {t : ST} {s : SS} : ∀ (n D : Nat) (ψ δ : Nat → Nat) (sp : Nat) (row : Nat → Nat) (b : PB), 0 < b.1 → 0 < (pP t s n D ψ δ sp row b).1
  | 0, D, ψ, δ, sp, row, b, hb => by
    show 0 < (pUp b _ _ _).1
    unfold pUp
    split
    · exact Nat.succ_pos _
    · exact hb
  | n + 1, D, ψ, δ, sp, row, b, hb => by
    refine enF_inv (Q := fun b => 0 < b.1) _ _ _ _ (fun ψ' δ' b hb => ?_) hb
    split
    · exact pP_up n _ _ _ _ _ _ hb
    · exact hb
theorem updN_self {ψ : Nat → Nat} {k : Nat} : updN ψ k (ψ k) = ψ := updN_id rfl
theorem enF_pos {t : ST} {s : SS} {D : Nat} {leaf : (Nat → Nat) → (Nat → Nat) → PB → PB} {ψ : Nat → Nat} (h1 : ∀ ψ' δ' b, 0 < b.1 → 0 < (leaf ψ' δ' b).1) (h2 : ∀ δ' b, 0 < (leaf ψ δ' b).1) : ∀ (l : List Nat) (δ : Nat → Nat) (b : PB), (∀ ρ ∈ l, ψ ρ < tF t) → 0 < (enF t s D leaf l ψ δ b).1
  | [], δ, b, _ => h2 δ b
  | ρ :: l, δ, b, h => by
    unfold enF
    split
    · exact enF_pos h1 h2 l δ b (fun a ha => h a (List.mem_cons_of_mem _ ha))
    · have hF := h ρ (List.mem_cons_self ..)
      obtain ⟨m, hm⟩ : ∃ m, tF t - ψ ρ = m + 1 := ⟨tF t - ψ ρ - 1, by omega⟩
      rw [hm]
      show 0 < (fob _ m (ψ ρ + 1) (enF t s D leaf l (updN ψ ρ (ψ ρ)) _ b)).1
      refine fob_inv (Q := fun b => 0 < b.1) _ _ _ (fun u b _ _ hb => enF_inv (Q := fun b => 0 < b.1) _ _ _ _ h1 hb) ?_
      rw [updN_self]
      exact enF_pos h1 h2 l _ b (fun a ha => h a (List.mem_cons_of_mem _ ha))
theorem ls_mono {f k : Nat → Nat} : ∀ {l : List Nat}, (∀ a ∈ l, f a ≤ k a) → ls f l ≤ ls k l
  | [], _ => Nat.le_refl _
  | a :: l, h => by
    rw [ls_cons, ls_cons]
    exact Nat.add_le_add (h a (List.mem_cons_self ..)) (ls_mono (fun b hb => h b (List.mem_cons_of_mem _ hb)))
theorem pP_pos {t : ST} {s : SS} : ∀ (n D : Nat) (ψ δ : Nat → Nat) (sp : Nat) (row : Nat → Nat) (b : PB), (∀ ρ ∈ rp s (tR t), ψ ρ < tF t) → (∀ f, f < tF t → pLoad t s D ψ ψ f ≤ tB t f) → 0 < (pP t s n D ψ δ sp row b).1 ∨ 0 < b.1
  | 0, D, ψ, δ, sp, row, b, _, _ => by
    by_cases c : 0 < b.1
    · exact Or.inr c
    · refine Or.inl ?_
      show 0 < (pUp b _ _ _).1
      unfold pUp
      rw [decide_eq_true (by omega)]
      exact Nat.succ_pos _
  | n + 1, D, ψ, δ, sp, row, b, hF, hL => by
    refine Or.inl ?_
    refine enF_pos (fun ψ' δ' b hb => ?_) (fun δ' b => ?_) (rp s (tR t)) δ b hF
    · split
      · exact pP_up n _ _ _ _ _ _ hb
      · exact hb
    · have c0 : pCost t s D ψ ψ = 0 := by
        have := ls_le (f := tCost t s D ψ ψ) (c := 0) (l := rp s (tR t)) (fun a _ => by
          unfold tCost
          rw [Nat.sub_self, Nat.zero_mul]
          split <;> omega)
        unfold pCost
        omega
      have ok : pOk t s D ψ ψ = true := by
        unfold pOk
        rw [c0, decide_eq_true (Nat.zero_le _), Bool.true_and]
        exact pFit_t.mpr hL
      rw [if_pos ok]
      rcases pP_pos n (D + 1) ψ δ' (sp + pCost t s D ψ ψ) (if D = 0 then ψ else row) b hF (fun f hf => by
        refine Nat.le_trans (ls_mono (fun a _ => ?_)) (hL f hf)
        unfold tLoad
        by_cases c : ψ a < sH s + (D + 1)
        · rw [if_pos c]; exact Nat.zero_le _
        · rw [if_neg c, if_neg (show ¬ ψ a < sH s + D by omega)]
          exact Nat.le_refl _) with z | z
      · exact z
      · exact pP_up n _ _ _ _ _ _ z
