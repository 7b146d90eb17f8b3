/-! THE READER, pure: what it is in, what a byte makes of it -/
def anyN (p : Nat → Bool) : Nat → Bool
  | 0 => false
  | n + 1 => anyN p n || p n
theorem anyN_t {p : Nat → Bool} : ∀ {n}, anyN p n = true ↔ ∃ r, r < n ∧ p r = true
  | 0 => by simp [anyN]
  | n + 1 => by
    unfold anyN
    rw [Bool.or_eq_true_iff, anyN_t]
    constructor
    · rintro (⟨r, h1, h2⟩ | h)
      · exact ⟨r, by omega, h2⟩
      · exact ⟨n, by omega, h⟩
    · rintro ⟨r, h1, h2⟩
      rcases Nat.lt_succ_iff_lt_or_eq.mp h1 with z | z
      · exact Or.inl ⟨r, z, h2⟩
      · subst z; exact Or.inr h2
theorem anyN_yes {p : Nat → Bool} {n r : Nat} (hr : r < n) (h : p r = true) : anyN p n = true := anyN_t.mpr ⟨r, hr, h⟩
/-- stage, floor, tens; weight, worth, asked, kind, citing; floors, bears, room; records: weight, worth, asked, kind, floor, cited -/
abbrev RS : Type := Nat × Nat × Nat × Nat × Nat × Nat × Nat × Nat × Nat × (Nat → Nat) × (Nat → Nat) × Nat × (Nat → Nat) × (Nat → Nat) × (Nat → Nat) × (Nat → Nat) × (Nat → Nat) × (Nat → Nat)
def aS (s : RS) : Nat := s.1
def aL (s : RS) : Nat := s.2.1
def aT (s : RS) : Nat := s.2.2.1
def aw (s : RS) : Nat := s.2.2.2.1
def av (s : RS) : Nat := s.2.2.2.2.1
def aa (s : RS) : Nat := s.2.2.2.2.2.1
def ak (s : RS) : Nat := s.2.2.2.2.2.2.1
def ai (s : RS) : Nat := s.2.2.2.2.2.2.2.1
def aF (s : RS) : Nat := s.2.2.2.2.2.2.2.2.1
def aB (s : RS) : Nat → Nat := s.2.2.2.2.2.2.2.2.2.1
def aM (s : RS) : Nat → Nat := s.2.2.2.2.2.2.2.2.2.2.1
def aR (s : RS) : Nat := s.2.2.2.2.2.2.2.2.2.2.2.1
def aW (s : RS) : Nat → Nat := s.2.2.2.2.2.2.2.2.2.2.2.2.1
def aV (s : RS) : Nat → Nat := s.2.2.2.2.2.2.2.2.2.2.2.2.2.1
def aA (s : RS) : Nat → Nat := s.2.2.2.2.2.2.2.2.2.2.2.2.2.2.1
def aK (s : RS) : Nat → Nat := s.2.2.2.2.2.2.2.2.2.2.2.2.2.2.2.1
def aG (s : RS) : Nat → Nat := s.2.2.2.2.2.2.2.2.2.2.2.2.2.2.2.2.1
def aC (s : RS) : Nat → Nat := s.2.2.2.2.2.2.2.2.2.2.2.2.2.2.2.2.2
/-- what always holds of it -/
def okB (s : RS) : Prop := (∀ f, f < aL s → aB s f ≤ 99 ∧ aM s f + sm (fun r => if aG s r = f then aW s r else 0) (aR s) = aB s f) ∧ (∀ r, r < aR s → 1 ≤ aW s r ∧ aW s r ≤ 9 ∧ aV s r ≤ 9 ∧ aA s r ≤ 9 ∧ aK s r ≤ 3 ∧ aG s r < aF s ∧ aC s r < 2 ^ aR s ∧ (aC s r).testBit r = false ∧ (aK s r = 3 → 0 < r ∧ aG s r = aG s (r - 1))) ∧ ∀ r, aR s ≤ r → aC s r = 0
def okA (s : RS) : Prop := aS s ≤ 11 ∧ (2 ≤ aS s → 2 ≤ aF s ∧ aF s ≤ 5) ∧ (aS s ≤ 1 → aL s = 0) ∧ (aS s = 2 ∨ aS s = 3 → aL s < aF s) ∧ (4 ≤ aS s → aL s = aF s) ∧ (aS s = 3 → aT s ≤ 9) ∧ (6 ≤ aS s ∧ aS s ≤ 9 → 1 ≤ aw s ∧ aw s ≤ 9) ∧ (7 ≤ aS s ∧ aS s ≤ 9 → av s ≤ 9) ∧ (8 ≤ aS s ∧ aS s ≤ 9 → aa s ≤ 9) ∧ (aS s = 9 → ak s ≤ 3) ∧ (aS s = 11 → ai s ≤ 9) ∧ aR s ≤ 8 ∧ (5 ≤ aS s ∧ aS s ≤ 9 → aR s < 8) ∧ (aS s ≤ 3 → aR s = 0) ∧ okB s
def aH (s : RS) (w : Nat) : Bool := anyN (fun g => decide (w ≤ aM s g)) (aF s)
def aCit (s : RS) (i j : Nat) : Bool := !decide (j = i) && !(aC s i).testBit j
def aCan (s : RS) (i : Nat) : Bool := decide (i < aR s) && anyN (aCit s i) (aR s)
def aBe (s : RS) (f : Nat) : Bool := decide (f < aF s) && decide (aw s ≤ aM s f)
def aPl (s : RS) (f : Nat) : Bool := decide (0 < aR s) && decide (f = aG s (aR s - 1))
def t0 (s : RS) (c : Nat) : Option RS := if c = 84 then some (1, aL s, aT s, aw s, av s, aa s, ak s, ai s, aF s, aB s, aM s, aR s, aW s, aV s, aA s, aK s, aG s, aC s) else none
def t1 (s : RS) (f : Nat) : Option RS := if 2 ≤ f ∧ f ≤ 5 then some (2, 0, aT s, aw s, av s, aa s, ak s, ai s, f, aB s, aM s, aR s, aW s, aV s, aA s, aK s, aG s, aC s) else none
def t2 (s : RS) (f : Nat) : Option RS := some (3, aL s, f, aw s, av s, aa s, ak s, ai s, aF s, aB s, aM s, aR s, aW s, aV s, aA s, aK s, aG s, aC s)
def t3 (s : RS) (f : Nat) : Option RS := some (if aL s + 1 < aF s then 2 else 4, aL s + 1, aT s, aw s, av s, aa s, ak s, ai s, aF s, updN (aB s) (aL s) (10 * aT s + f), updN (aM s) (aL s) (10 * aT s + f), aR s, aW s, aV s, aA s, aK s, aG s, aC s)
def t4 (s : RS) (c : Nat) : Option RS := if c = 82 then (if (decide (aR s < 8) && aH s 1) = true then some (5, aL s, aT s, aw s, av s, aa s, ak s, ai s, aF s, aB s, aM s, aR s, aW s, aV s, aA s, aK s, aG s, aC s) else none) else if (decide (c = 81) && anyN (aCan s) (aR s)) = true then some (10, aL s, aT s, aw s, av s, aa s, ak s, ai s, aF s, aB s, aM s, aR s, aW s, aV s, aA s, aK s, aG s, aC s) else none
def t5 (s : RS) (f : Nat) : Option RS := if (decide (1 ≤ f) && aH s f) = true then some (6, aL s, aT s, f, av s, aa s, ak s, ai s, aF s, aB s, aM s, aR s, aW s, aV s, aA s, aK s, aG s, aC s) else none
def t6 (s : RS) (f : Nat) : Option RS := some (7, aL s, aT s, aw s, f, aa s, ak s, ai s, aF s, aB s, aM s, aR s, aW s, aV s, aA s, aK s, aG s, aC s)
def t7 (s : RS) (f : Nat) : Option RS := some (8, aL s, aT s, aw s, av s, f, ak s, ai s, aF s, aB s, aM s, aR s, aW s, aV s, aA s, aK s, aG s, aC s)
def t8 (s : RS) (f : Nat) : Option RS := if (decide (f < 3) || (decide (f = 3) && (decide (0 < aR s) && aBe s (aG s (aR s - 1))))) = true then some (9, aL s, aT s, aw s, av s, aa s, f, ai s, aF s, aB s, aM s, aR s, aW s, aV s, aA s, aK s, aG s, aC s) else none
def t9 (s : RS) (f : Nat) : Option RS := if (aBe s f && (!decide (ak s = 3) || aPl s f)) = true then some (4, aL s, aT s, aw s, av s, aa s, ak s, ai s, aF s, aB s, updN (aM s) f (aM s f - aw s), aR s + 1, updN (aW s) (aR s) (aw s), updN (aV s) (aR s) (av s), updN (aA s) (aR s) (aa s), updN (aK s) (aR s) (ak s), updN (aG s) (aR s) f, aC s) else none
def t10 (s : RS) (f : Nat) : Option RS := if aCan s f = true then some (11, aL s, aT s, aw s, av s, aa s, ak s, f, aF s, aB s, aM s, aR s, aW s, aV s, aA s, aK s, aG s, aC s) else none
def t11 (s : RS) (f : Nat) : Option RS := if (aCan s (ai s) && (decide (f < aR s) && aCit s (ai s) f)) = true then some (4, aL s, aT s, aw s, av s, aa s, ak s, ai s, aF s, aB s, aM s, aR s, aW s, aV s, aA s, aK s, aG s, updN (aC s) (ai s) (aC s (ai s) ||| 2 ^ f)) else none
def tf (s : RS) (f : Nat) : Option RS := if aS s = 1 then t1 s f else if aS s = 2 then t2 s f else if aS s = 3 then t3 s f else if aS s = 5 then t5 s f else if aS s = 6 then t6 s f else if aS s = 7 then t7 s f else if aS s = 8 then t8 s f else if aS s = 9 then t9 s f else if aS s = 10 then t10 s f else if aS s = 11 then t11 s f else none
def tk (s : RS) (c : Nat) : Option RS := if aS s = 0 then t0 s c else if aS s = 4 then t4 s c else if 48 ≤ c ∧ c ≤ 57 then tf s (c - 48) else none
def rg (X : Nat → Nat) : Nat → Nat → RS → Option Nat × RS
  | 0, p, s => (if aS s = 4 then none else some p, s)
  | m + 1, p, s => match tk s (X p) with
    | none => (some p, s)
    | some s' => rg X m (p + 1) s'
def s0 : RS := (0, 0, 0, 0, 0, 0, 0, 0, 0, fun _ => 0, fun _ => 0, 0, fun _ => 0, fun _ => 0, fun _ => 0, fun _ => 0, fun _ => 0, fun _ => 0)
theorem rg_n {X : Nat → Nat} {m p : Nat} {s : RS} (h : tk s (X p) = none) : rg X (m + 1) p s = (some p, s) := by
  unfold rg
  rw [h]
theorem rg_s {X : Nat → Nat} {m p : Nat} {s s' : RS} (h : tk s (X p) = some s') : rg X (m + 1) p s = rg X m (p + 1) s' := by
  rw [rg, h]
theorem s0_ok : okA s0 := by
  have A (n : Nat) : 2 ≤ n → ¬ n ≤ aS s0 := fun h z => by
    have z : n ≤ 0 := z
    omega
  exact ⟨Nat.zero_le _, fun z => absurd z (A 2 (by decide)), fun _ => rfl, fun z => absurd z (by decide), fun z => absurd z (A 4 (by decide)), fun z => absurd z (by decide), fun z => absurd z.1 (A 6 (by decide)), fun z => absurd z.1 (A 7 (by decide)), fun z => absurd z.1 (A 8 (by decide)), fun z => absurd z (by decide), fun z => absurd z (by decide), Nat.zero_le _, fun z => absurd z.1 (A 5 (by decide)), fun _ => rfl, fun f hf => absurd hf (Nat.not_lt_zero f), fun f hf => absurd hf (Nat.not_lt_zero f), fun _ _ => rfl⟩
theorem t0_ok {s s' : RS} {f : Nat} (O : okA s) (hS : aS s = 0) (h : t0 s f = some s') : okA s' := by
  obtain ⟨S, L, T, w, v, a, k, i, F, B, M, R, W, V, A, K, G, C⟩ := s
  simp only [t0, okA, okB, aS, aL, aT, aw, av, aa, ak, ai, aF, aB, aM, aR, aW, aV, aA, aK, aG, aC] at h hS O
  subst hS
  split at h
  · cases h
    obtain ⟨o1, o2, o3, o4, o5, o6, o7, o8, o9, o10, o11, o12, o13, o14, b⟩ := O
    simp only [okA, okB, aS, aL, aT, aw, av, aa, ak, ai, aF, aB, aM, aR, aW, aV, aA, aK, aG, aC]
    exact ⟨by omega, by omega, by omega, by omega, by omega, by omega, by omega, by omega, by omega, by omega, by omega, by omega, by omega, by omega, b⟩
  · cases h
theorem t1_ok {s s' : RS} {f : Nat} (O : okA s) (hS : aS s = 1) (h : t1 s f = some s') : okA s' := by
  obtain ⟨S, L, T, w, v, a, k, i, F, B, M, R, W, V, A, K, G, C⟩ := s
  simp only [t1, okA, okB, aS, aL, aT, aw, av, aa, ak, ai, aF, aB, aM, aR, aW, aV, aA, aK, aG, aC] at h hS O
  subst hS
  split at h
  · cases h
    obtain ⟨o1, o2, o3, o4, o5, o6, o7, o8, o9, o10, o11, o12, o13, o14, b1, b2, b3⟩ := O
    simp only [okA, okB, aS, aL, aT, aw, av, aa, ak, ai, aF, aB, aM, aR, aW, aV, aA, aK, aG, aC]
    have hR : R = 0 := by omega
    subst hR
    exact ⟨by omega, by omega, by omega, by omega, by omega, by omega, by omega, by omega, by omega, by omega, by omega, by omega, by omega, by omega, fun f hf => absurd hf (Nat.not_lt_zero f), fun f hf => absurd hf (Nat.not_lt_zero f), b3⟩
  · cases h
theorem t2_ok {s s' : RS} {f : Nat} (O : okA s) (hS : aS s = 2) (hf : f ≤ 9) (h : t2 s f = some s') : okA s' := by
  obtain ⟨S, L, T, w, v, a, k, i, F, B, M, R, W, V, A, K, G, C⟩ := s
  simp only [t2, okA, okB, aS, aL, aT, aw, av, aa, ak, ai, aF, aB, aM, aR, aW, aV, aA, aK, aG, aC] at h hS O
  subst hS
  cases h
  obtain ⟨o1, o2, o3, o4, o5, o6, o7, o8, o9, o10, o11, o12, o13, o14, b⟩ := O
  simp only [okA, okB, aS, aL, aT, aw, av, aa, ak, ai, aF, aB, aM, aR, aW, aV, aA, aK, aG, aC]
  exact ⟨by omega, by omega, by omega, by omega, by omega, by omega, by omega, by omega, by omega, by omega, by omega, by omega, by omega, by omega, b⟩
theorem t3_ok {s s' : RS} {f : Nat} (O : okA s) (hS : aS s = 3) (hf : f ≤ 9) (h : t3 s f = some s') : okA s' := by
  have hb : ∀ (L T : Nat) (B M W G : Nat → Nat), T ≤ 9 → (∀ f', f' < L → B f' ≤ 99 ∧ M f' + sm (fun r => if G r = f' then W r else 0) 0 = B f') → ∀ f', f' < L + 1 → updN B L (10 * T + f) f' ≤ 99 ∧ updN M L (10 * T + f) f' + sm (fun r => if G r = f' then W r else 0) 0 = updN B L (10 * T + f) f' := fun L T B M W G hT b1 f' hf' => by
    unfold updN
    by_cases z : f' = L
    · rw [if_pos z, if_pos z]
      exact ⟨by omega, rfl⟩
    · rw [if_neg z, if_neg z]
      exact b1 f' (by omega)
  unfold t3 at h
  by_cases c : aL s + 1 < aF s
  · rw [if_pos c] at h
    obtain ⟨S, L, T, w, v, a, k, i, F, B, M, R, W, V, A, K, G, C⟩ := s
    simp only [okA, okB, aS, aL, aT, aw, av, aa, ak, ai, aF, aB, aM, aR, aW, aV, aA, aK, aG, aC] at h hS O c
    subst hS
    cases h
    obtain ⟨o1, o2, o3, o4, o5, o6, o7, o8, o9, o10, o11, o12, o13, o14, b1, b2, b3⟩ := O
    simp only [okA, okB, aS, aL, aT, aw, av, aa, ak, ai, aF, aB, aM, aR, aW, aV, aA, aK, aG, aC]
    have hR : R = 0 := by omega
    subst hR
    exact ⟨by omega, by omega, by omega, by omega, by omega, by omega, by omega, by omega, by omega, by omega, by omega, by omega, by omega, by omega, hb L T B M W G (by omega) b1, fun f hf => absurd hf (Nat.not_lt_zero f), b3⟩
  · rw [if_neg c] at h
    obtain ⟨S, L, T, w, v, a, k, i, F, B, M, R, W, V, A, K, G, C⟩ := s
    simp only [okA, okB, aS, aL, aT, aw, av, aa, ak, ai, aF, aB, aM, aR, aW, aV, aA, aK, aG, aC] at h hS O c
    subst hS
    cases h
    obtain ⟨o1, o2, o3, o4, o5, o6, o7, o8, o9, o10, o11, o12, o13, o14, b1, b2, b3⟩ := O
    simp only [okA, okB, aS, aL, aT, aw, av, aa, ak, ai, aF, aB, aM, aR, aW, aV, aA, aK, aG, aC]
    have hR : R = 0 := by omega
    subst hR
    exact ⟨by omega, by omega, by omega, by omega, by omega, by omega, by omega, by omega, by omega, by omega, by omega, by omega, by omega, by omega, hb L T B M W G (by omega) b1, fun f hf => absurd hf (Nat.not_lt_zero f), b3⟩
theorem t4_ok {s s' : RS} {f : Nat} (O : okA s) (hS : aS s = 4) (h : t4 s f = some s') : okA s' := by
  unfold t4 at h
  split at h
  · split at h
    · rename_i c2
      have c2 := of_decide_eq_true (Bool.and_eq_true_iff.mp c2).1
      obtain ⟨S, L, T, w, v, a, k, i, F, B, M, R, W, V, A, K, G, C⟩ := s
      simp only [okA, okB, aS, aL, aT, aw, av, aa, ak, ai, aF, aB, aM, aR, aW, aV, aA, aK, aG, aC] at h hS O c2
      subst hS
      cases h
      obtain ⟨o1, o2, o3, o4, o5, o6, o7, o8, o9, o10, o11, o12, o13, o14, b⟩ := O
      simp only [okA, okB, aS, aL, aT, aw, av, aa, ak, ai, aF, aB, aM, aR, aW, aV, aA, aK, aG, aC]
      exact ⟨by omega, by omega, by omega, by omega, by omega, by omega, by omega, by omega, by omega, by omega, by omega, by omega, by omega, by omega, b⟩
    · cases h
  · split at h
    · obtain ⟨S, L, T, w, v, a, k, i, F, B, M, R, W, V, A, K, G, C⟩ := s
      simp only [okA, okB, aS, aL, aT, aw, av, aa, ak, ai, aF, aB, aM, aR, aW, aV, aA, aK, aG, aC] at h hS O
      subst hS
      cases h
      obtain ⟨o1, o2, o3, o4, o5, o6, o7, o8, o9, o10, o11, o12, o13, o14, b⟩ := O
      simp only [okA, okB, aS, aL, aT, aw, av, aa, ak, ai, aF, aB, aM, aR, aW, aV, aA, aK, aG, aC]
      exact ⟨by omega, by omega, by omega, by omega, by omega, by omega, by omega, by omega, by omega, by omega, by omega, by omega, by omega, by omega, b⟩
    · cases h
theorem t5_ok {s s' : RS} {f : Nat} (O : okA s) (hS : aS s = 5) (hf : f ≤ 9) (h : t5 s f = some s') : okA s' := by
  unfold t5 at h
  split at h
  · rename_i c2
    have c2 := of_decide_eq_true (Bool.and_eq_true_iff.mp c2).1
    obtain ⟨S, L, T, w, v, a, k, i, F, B, M, R, W, V, A, K, G, C⟩ := s
    simp only [okA, okB, aS, aL, aT, aw, av, aa, ak, ai, aF, aB, aM, aR, aW, aV, aA, aK, aG, aC] at h hS O
    subst hS
    cases h
    obtain ⟨o1, o2, o3, o4, o5, o6, o7, o8, o9, o10, o11, o12, o13, o14, b⟩ := O
    simp only [okA, okB, aS, aL, aT, aw, av, aa, ak, ai, aF, aB, aM, aR, aW, aV, aA, aK, aG, aC]
    exact ⟨by omega, by omega, by omega, by omega, by omega, by omega, by omega, by omega, by omega, by omega, by omega, by omega, by omega, by omega, b⟩
  · cases h
theorem t6_ok {s s' : RS} {f : Nat} (O : okA s) (hS : aS s = 6) (hf : f ≤ 9) (h : t6 s f = some s') : okA s' := by
  obtain ⟨S, L, T, w, v, a, k, i, F, B, M, R, W, V, A, K, G, C⟩ := s
  simp only [t6, okA, okB, aS, aL, aT, aw, av, aa, ak, ai, aF, aB, aM, aR, aW, aV, aA, aK, aG, aC] at h hS O
  subst hS
  cases h
  obtain ⟨o1, o2, o3, o4, o5, o6, o7, o8, o9, o10, o11, o12, o13, o14, b⟩ := O
  simp only [okA, okB, aS, aL, aT, aw, av, aa, ak, ai, aF, aB, aM, aR, aW, aV, aA, aK, aG, aC]
  exact ⟨by omega, by omega, by omega, by omega, by omega, by omega, by omega, by omega, by omega, by omega, by omega, by omega, by omega, by omega, b⟩
theorem t7_ok {s s' : RS} {f : Nat} (O : okA s) (hS : aS s = 7) (hf : f ≤ 9) (h : t7 s f = some s') : okA s' := by
  obtain ⟨S, L, T, w, v, a, k, i, F, B, M, R, W, V, A, K, G, C⟩ := s
  simp only [t7, okA, okB, aS, aL, aT, aw, av, aa, ak, ai, aF, aB, aM, aR, aW, aV, aA, aK, aG, aC] at h hS O
  subst hS
  cases h
  obtain ⟨o1, o2, o3, o4, o5, o6, o7, o8, o9, o10, o11, o12, o13, o14, b⟩ := O
  simp only [okA, okB, aS, aL, aT, aw, av, aa, ak, ai, aF, aB, aM, aR, aW, aV, aA, aK, aG, aC]
  exact ⟨by omega, by omega, by omega, by omega, by omega, by omega, by omega, by omega, by omega, by omega, by omega, by omega, by omega, by omega, b⟩
theorem t8_3 {s : RS} {f : Nat} (c : (decide (f < 3) || (decide (f = 3) && (decide (0 < aR s) && aBe s (aG s (aR s - 1))))) = true) : f ≤ 3 := by
  rcases Bool.or_eq_true_iff.mp c with z | z
  · have := of_decide_eq_true z; omega
  · have := of_decide_eq_true (Bool.and_eq_true_iff.mp z).1; omega
theorem t8_ok {s s' : RS} {f : Nat} (O : okA s) (hS : aS s = 8) (h : t8 s f = some s') : okA s' := by
  unfold t8 at h
  split at h
  · rename_i c2
    have c2 := t8_3 c2
    obtain ⟨S, L, T, w, v, a, k, i, F, B, M, R, W, V, A, K, G, C⟩ := s
    simp only [okA, okB, aS, aL, aT, aw, av, aa, ak, ai, aF, aB, aM, aR, aW, aV, aA, aK, aG, aC] at h hS O
    subst hS
    cases h
    obtain ⟨o1, o2, o3, o4, o5, o6, o7, o8, o9, o10, o11, o12, o13, o14, b⟩ := O
    simp only [okA, okB, aS, aL, aT, aw, av, aa, ak, ai, aF, aB, aM, aR, aW, aV, aA, aK, aG, aC]
    exact ⟨by omega, by omega, by omega, by omega, by omega, by omega, by omega, by omega, by omega, by omega, by omega, by omega, by omega, by omega, b⟩
  · cases h
theorem updN_at {f : Nat → Nat} {k v : Nat} : updN f k v k = v := by unfold updN; rw [if_pos rfl]
theorem updN_ne {f : Nat → Nat} {k v j : Nat} (h : j ≠ k) : updN f k v j = f j := by unfold updN; rw [if_neg h]
theorem t9_ok {s s' : RS} {f : Nat} (O : okA s) (hS : aS s = 9) (h : t9 s f = some s') : okA s' := by
  unfold t9 at h
  split at h
  · rename_i c
    obtain ⟨c1, c2⟩ := Bool.and_eq_true_iff.mp c
    have c3 : f < aF s := of_decide_eq_true (Bool.and_eq_true_iff.mp c1).1
    have c4 : aw s ≤ aM s f := of_decide_eq_true (Bool.and_eq_true_iff.mp c1).2
    clear c c1
    have c5 : ak s = 3 → 0 < aR s ∧ f = aG s (aR s - 1) := fun z => by
      rw [decide_eq_true z] at c2
      obtain ⟨y1, y2⟩ := Bool.and_eq_true_iff.mp c2
      exact ⟨of_decide_eq_true y1, of_decide_eq_true y2⟩
    clear c2
    obtain ⟨S, L, T, w, v, a, k, i, F, B, M, R, W, V, A, K, G, C⟩ := s
    simp only [okA, okB, aS, aL, aT, aw, av, aa, ak, ai, aF, aB, aM, aR, aW, aV, aA, aK, aG, aC] at h hS O c3 c4 c5
    subst hS
    cases h
    obtain ⟨o1, o2, o3, o4, o5, o6, o7, o8, o9, o10, o11, o12, o13, o14, b1, b2, b3⟩ := O
    simp only [okA, okB, aS, aL, aT, aw, av, aa, ak, ai, aF, aB, aM, aR, aW, aV, aA, aK, aG, aC]
    have hw := o7 ⟨by omega, by omega⟩
    refine ⟨by omega, by omega, by omega, by omega, by omega, by omega, by omega, by omega, by omega, by omega, by omega, by omega, by omega, by omega, fun f' hf' => ⟨(b1 f' hf').1, ?_⟩, fun r hr => ?_, fun r hr => b3 r (by omega)⟩
    · have e : sm (fun r => if updN G R f r = f' then updN W R w r else 0) R = sm (fun r => if G r = f' then W r else 0) R := sm_congr (fun r hr => by rw [updN_ne (by omega), updN_ne (by omega)])
      show _ + (sm (fun r => if updN G R f r = f' then updN W R w r else 0) R + (if updN G R f R = f' then updN W R w R else 0)) = _
      have h1 : M f' + sm (fun r => if G r = f' then W r else 0) R = B f' := (b1 f' hf').2
      rw [e, updN_at, updN_at]
      by_cases z : f' = f
      · subst z
        rw [updN_at, if_pos rfl]
        omega
      · rw [updN_ne z, if_neg (fun y => z y.symm)]
        exact h1
    · by_cases z : r = R
      · subst z
        rw [updN_at, updN_at, updN_at, updN_at, updN_at, b3 r (Nat.le_refl r)]
        refine ⟨hw.1, hw.2, o8 ⟨by omega, by omega⟩, o9 ⟨by omega, by omega⟩, o10 rfl, c3, Nat.two_pow_pos _, Nat.zero_testBit r, fun y => ?_⟩
        have := c5 y
        exact ⟨this.1, by rw [updN_ne (by omega)]; exact this.2⟩
      · have hr' : r < R := by omega
        obtain ⟨x1, x2, x3, x4, x5, x6, x7, x8, x9⟩ := b2 r hr'
        rw [updN_ne z, updN_ne z, updN_ne z, updN_ne z, updN_ne z, updN_ne (show r - 1 ≠ R by omega)]
        exact ⟨x1, x2, x3, x4, x5, x6, Nat.lt_trans x7 (Nat.pow_lt_pow_right (by decide) (by omega)), x8, x9⟩
  · cases h
theorem t10_ok {s s' : RS} {f : Nat} (O : okA s) (hS : aS s = 10) (hf : f ≤ 9) (h : t10 s f = some s') : okA s' := by
  unfold t10 at h
  split at h
  · obtain ⟨S, L, T, w, v, a, k, i, F, B, M, R, W, V, A, K, G, C⟩ := s
    simp only [okA, okB, aS, aL, aT, aw, av, aa, ak, ai, aF, aB, aM, aR, aW, aV, aA, aK, aG, aC] at h hS O
    subst hS
    cases h
    obtain ⟨o1, o2, o3, o4, o5, o6, o7, o8, o9, o10, o11, o12, o13, o14, b⟩ := O
    simp only [okA, okB, aS, aL, aT, aw, av, aa, ak, ai, aF, aB, aM, aR, aW, aV, aA, aK, aG, aC]
    exact ⟨by omega, by omega, by omega, by omega, by omega, by omega, by omega, by omega, by omega, by omega, by omega, by omega, by omega, by omega, b⟩
  · cases h
theorem t11_ok {s s' : RS} {f : Nat} (O : okA s) (hS : aS s = 11) (h : t11 s f = some s') : okA s' := by
  unfold t11 at h
  split at h
  · rename_i c
    obtain ⟨c1, c2⟩ := Bool.and_eq_true_iff.mp c
    obtain ⟨c3b, c4⟩ := Bool.and_eq_true_iff.mp c2
    have c0 := of_decide_eq_true (Bool.and_eq_true_iff.mp c1).1
    have c3 : f < aR s := of_decide_eq_true c3b
    have c5 : f ≠ ai s := by
      have := (Bool.and_eq_true_iff.mp c4).1
      simpa using this
    clear c c1 c2 c3b c4
    obtain ⟨S, L, T, w, v, a, k, i, F, B, M, R, W, V, A, K, G, C⟩ := s
    simp only [okA, okB, aS, aL, aT, aw, av, aa, ak, ai, aF, aB, aM, aR, aW, aV, aA, aK, aG, aC] at h hS O c0 c3 c5
    subst hS
    cases h
    obtain ⟨o1, o2, o3, o4, o5, o6, o7, o8, o9, o10, o11, o12, o13, o14, b1, b2, b3⟩ := O
    simp only [okA, okB, aS, aL, aT, aw, av, aa, ak, ai, aF, aB, aM, aR, aW, aV, aA, aK, aG, aC]
    refine ⟨by omega, by omega, by omega, by omega, by omega, by omega, by omega, by omega, by omega, by omega, by omega, by omega, by omega, by omega, b1, fun r hr => ?_, fun r hr => by rw [updN_ne (by omega)]; exact b3 r hr⟩
    obtain ⟨x1, x2, x3, x4, x5, x6, x7, x8, x9⟩ := b2 r hr
    by_cases z : r = i
    · subst z
      rw [updN_at]
      refine ⟨x1, x2, x3, x4, x5, x6, Nat.or_lt_two_pow x7 (Nat.pow_lt_pow_right (by decide) c3), ?_, x9⟩
      rw [Nat.testBit_or, x8, Nat.testBit_two_pow, decide_eq_false c5]
      rfl
    · rw [updN_ne z]
      exact ⟨x1, x2, x3, x4, x5, x6, x7, x8, x9⟩
  · cases h
theorem tf_ok {s s' : RS} {f : Nat} (O : okA s) (hf : f ≤ 9) (h : tf s f = some s') : okA s' := by
  unfold tf at h
  split at h
  · rename_i c; exact t1_ok O c h
  split at h
  · rename_i c; exact t2_ok O c hf h
  split at h
  · rename_i c; exact t3_ok O c hf h
  split at h
  · rename_i c; exact t5_ok O c hf h
  split at h
  · rename_i c; exact t6_ok O c hf h
  split at h
  · rename_i c; exact t7_ok O c hf h
  split at h
  · rename_i c; exact t8_ok O c h
  split at h
  · rename_i c; exact t9_ok O c h
  split at h
  · rename_i c; exact t10_ok O c hf h
  split at h
  · rename_i c; exact t11_ok O c h
  · cases h
theorem tk_ok {s s' : RS} {c : Nat} (O : okA s) (h : tk s c = some s') : okA s' := by
  unfold tk at h
  split at h
  · rename_i c; exact t0_ok O c h
  split at h
  · rename_i c; exact t4_ok O c h
  split at h
  · exact tf_ok O (by omega) h
  · cases h
theorem rg_ok {X : Nat → Nat} : ∀ {m p : Nat} {s : RS}, okA s → (rg X m p s).1 = none → okA (rg X m p s).2 ∧ aS (rg X m p s).2 = 4
  | 0, p, s, O, h => by
    unfold rg at h ⊢
    refine ⟨O, ?_⟩
    by_cases c : aS s = 4
    · exact c
    · rw [if_neg c] at h; cases h
  | m + 1, p, s, O, h => by
    cases hk : tk s (X p) with
    | none => rw [rg_n hk] at h; cases h
    | some s' =>
      rw [rg_s hk] at h ⊢
      exact rg_ok (tk_ok O hk) h
/-- the state behind a text that tells a tower -/
def towT (s : RS) : ST := (aF s, aB s, aR s, aW s, aA s, aC s)
def towS (s : RS) : SS := (aG s, aV s, aK s, 0, 0, 9, 9)
def towX (x : SX) (s : RS) : SX := (towT s, towS s, aG s, [], none, none, xN x, xX x)
theorem towX_ok {x : SX} {s : RS} (O : okX x) (A : okA s) (h4 : aS s = 4) : okX (towX x s) := by
  obtain ⟨o1, o2, o3, o4, o5, o6, o7, o8, o9, o10, o11, o12, o13, o14, b1, b2, b3⟩ := A
  have o2 := o2 (by omega)
  have o5 := o5 (by omega)
  have T : okT (towT s) := ⟨o2.1, o2.2, o12, fun r hr => by
    obtain ⟨x1, x2, x3, x4, x5, x6, x7, x8, x9⟩ := b2 r hr
    exact ⟨x1, x2, x4, x7, x8⟩, fun f hf => (b1 f (by rw [o5]; exact hf)).1⟩
  have S : okS (towT s) (towS s) := by
    refine ⟨fun r hr => ?_, Nat.two_pow_pos _, Nat.zero_le _, by show 9 ≤ 99; omega, Nat.le_refl 9, fun r hr => ?_, fun r hr h3 => ?_, fun f hf => ?_⟩
    · obtain ⟨x1, x2, x3, x4, x5, x6, x7, x8, x9⟩ := b2 r hr
      exact ⟨x6, x3, x5⟩
    · show (Nat.testBit 0 r = true ↔ _ < 0)
      rw [Nat.zero_testBit]
      exact ⟨fun z => absurd z Bool.false_ne_true, fun z => absurd z (Nat.not_lt_zero _)⟩
    · obtain ⟨x1, x2, x3, x4, x5, x6, x7, x8, x9⟩ := b2 r hr
      have := x9 h3
      refine ⟨this.1, this.2, ?_⟩
      show Nat.testBit 0 r = Nat.testBit 0 (r - 1)
      rw [Nat.zero_testBit, Nat.zero_testBit]
    · have h1 : aM s f + sm (fun r => if aG s r = f then aW s r else 0) (aR s) = aB s f := (b1 f (by rw [o5]; exact hf)).2
      have e : wOf (tW (towT s)) (onF (towS s) f (tR (towT s))) (tR (towT s)) = sm (fun r => if aG s r = f then aW s r else 0) (aR s) := by
        unfold wOf
        refine sm_congr (fun r hr => ?_)
        have hr : r < aR s := hr
        unfold onF
        rw [mk_bit]
        have e1 : th (towS s) r = true := by
          show (!Nat.testBit 0 r) = true
          rw [Nat.zero_testBit]
          rfl
        rw [e1, decide_eq_true (show r < tR (towT s) from hr), Bool.true_and, Bool.true_and]
        show (if decide (aG s r = f) = true then aW s r else 0) = if aG s r = f then aW s r else 0
        by_cases z : aG s r = f
        · rw [if_pos z, if_pos (decide_eq_true z)]
        · rw [if_neg z, if_neg (by rw [decide_eq_false z]; exact Bool.false_ne_true)]
      rw [e]
      show _ ≤ aB s f
      omega
  refine ⟨T, S, fun r hr => ?_, by show 0 ≤ 10; omega, (fun s hs => by cases hs), (fun s ix z => by cases z), (fun s ix z => by cases z), O.2.2.2.2.2.2.2.1, O.2.2.2.2.2.2.2.2⟩
  obtain ⟨x1, x2, x3, x4, x5, x6, x7, x8, x9⟩ := b2 r hr
  exact x6
def readR (x : SX) : Option Nat × RS := rg (xX x) (xN x) 0 s0
def fauA (x : SX) : Int32 := match (readR x).1 with
  | none => -9
  | some p => nI p
