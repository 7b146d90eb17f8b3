/-! both sides find the least: pure -/
def mn (S : Nat → Prop) (b r : Nat) : Prop := r ≤ b ∧ (∀ c, S c → r ≤ c) ∧ (r = b ∨ S r)
theorem mn_congr {S S' : Nat → Prop} {b r : Nat} (h : ∀ c, S c ↔ S' c) (m : mn S b r) : mn S' b r := ⟨m.1, fun c hc => m.2.1 c ((h c).mpr hc), m.2.2.imp id (h r).mp⟩
theorem mn_uniq {S : Nat → Prop} {b b' r r' c : Nat} (m : mn S b r) (m' : mn S b' r') (hc : S c) (hb : c < b) (hb' : c < b') : r = r' := by
  have h1 := m.2.1 c hc
  have h2 := m'.2.1 c hc
  rcases m.2.2 with e | e
  · omega
  · rcases m'.2.2 with e' | e'
    · omega
    · have := m.2.1 r' e'
      have := m'.2.1 r e
      omega
theorem mn_fo {S : Nat → Nat → Prop} {g : Nat → Nat → Nat} : ∀ n t b, (∀ u b, t ≤ u → u < t + n → mn (S u) b (g u b)) → mn (fun c => ∃ u, t ≤ u ∧ u < t + n ∧ S u c) b (fo g n t b)
  | 0, t, b, _ => ⟨Nat.le_refl _, fun c ⟨u, h1, h2, _⟩ => by omega, Or.inl rfl⟩
  | n + 1, t, b, h => by
    have h0 := h t b (Nat.le_refl _) (by omega)
    have h1 := mn_fo n (t + 1) (g t b) (fun u b a c => h u b (by omega) (by omega))
    show mn _ b (fo g n (t + 1) (g t b))
    refine ⟨Nat.le_trans h1.1 h0.1, fun c ⟨u, a, e, s⟩ => ?_, ?_⟩
    · rcases Nat.eq_or_lt_of_le a with z | z
      · subst z
        exact Nat.le_trans h1.1 (h0.2.1 c s)
      · exact h1.2.1 c ⟨u, by omega, by omega, s⟩
    · rcases h1.2.2 with z | ⟨u, a, e, s⟩
      · rw [z]
        rcases h0.2.2 with y | y
        · exact Or.inl y
        · exact Or.inr ⟨t, Nat.le_refl _, by omega, y⟩
      · exact Or.inr ⟨u, by omega, by omega, s⟩
def ls (f : Nat → Nat) (l : List Nat) : Nat := (l.map f).sum
theorem ls_cons {f : Nat → Nat} {a : Nat} {l : List Nat} : ls f (a :: l) = f a + ls f l := by simp [ls]
theorem ls_congr {f k : Nat → Nat} {l : List Nat} (h : ∀ a ∈ l, f a = k a) : ls f l = ls k l := by
  unfold ls
  rw [List.map_congr_left h]
def SC (W A B : Nat → Nat) (w F : Nat) (l : List Nat) (load : Nat → Nat) (st c : Nat) : Prop := ∃ ψ : Nat → Nat, (∀ ρ ∈ l, w ≤ ψ ρ ∧ ψ ρ < F) ∧ (∀ f, f < F → load f + ls (fun ρ => if ψ ρ = f then W ρ else 0) l ≤ B f) ∧ c = st + ls (fun ρ => A ρ * (ψ ρ - w)) l
theorem plc_mn {W A B : Nat → Nat} {w F : Nat} : ∀ (l : List Nat) (load : Nat → Nat) (st fw : Nat), l.Nodup → w ≤ F → (∀ f, f < F → load f ≤ B f) → mn (SC W A B w F l load st) fw (plc W A B w F l load st fw)
  | [], load, st, fw, _, _, hL => by
    unfold plc
    have h0 : SC W A B w F [] load st st := ⟨fun _ => 0, by simp, fun f hf => by simpa [ls] using hL f hf, by simp [ls]⟩
    have h1 : ∀ c, SC W A B w F [] load st c → c = st := fun c ⟨ψ, _, _, e⟩ => by simpa [ls] using e
    by_cases c : fw ≤ st
    · rw [if_pos c]
      exact ⟨Nat.le_refl _, fun c hc => by rw [h1 c hc]; omega, Or.inl rfl⟩
    · rw [if_neg c]
      exact ⟨by omega, fun c hc => by rw [h1 c hc]; omega, Or.inr h0⟩
  | ρ :: l, load, st, fw, hnd, hwF, hL => by
    unfold plc
    by_cases c : fw ≤ st
    · rw [if_pos c]
      exact ⟨Nat.le_refl _, fun c hc => by obtain ⟨ψ, _, _, e⟩ := hc; omega, Or.inl rfl⟩
    · rw [if_neg c]
      have hρ : ρ ∉ l := (List.nodup_cons.mp hnd).1
      have hnl := (List.nodup_cons.mp hnd).2
      refine mn_congr (S := fun c => ∃ u, w ≤ u ∧ u < w + (F - w) ∧ (load u + W ρ ≤ B u ∧ SC W A B w F l (updN load u (load u + W ρ)) (st + A ρ * (u - w)) c)) (fun c => ?_) (mn_fo _ _ _ (fun u b h1 h2 => ?_))
      · constructor
        · rintro ⟨u, a1, a2, a3, ψ, b1, b2, b3⟩
          have e : ∀ a ∈ l, updN ψ ρ u a = ψ a := fun a ha => by
            have na : a ≠ ρ := fun z => hρ (z ▸ ha)
            unfold updN
            rw [if_neg na]
          have e0 : updN ψ ρ u ρ = u := by unfold updN; rw [if_pos rfl]
          refine ⟨updN ψ ρ u, fun a ha => ?_, fun f hf => ?_, ?_⟩
          · rcases List.mem_cons.mp ha with z | z
            · rw [z, e0]; exact ⟨a1, by omega⟩
            · rw [e a z]; exact b1 a z
          · rw [ls_cons, e0, ls_congr (k := fun ρ => if ψ ρ = f then W ρ else 0) (fun a ha => by show (if updN ψ ρ u a = f then W a else 0) = _; rw [e a ha])]
            have := b2 f hf
            unfold updN at this
            by_cases z : u = f
            · subst z
              rw [if_pos rfl] at this ⊢
              omega
            · rw [if_neg (fun y => z y.symm)] at this
              rw [if_neg z]
              omega
          · rw [ls_cons, e0, ls_congr (k := fun ρ => A ρ * (ψ ρ - w)) (fun a ha => by show A a * (updN ψ ρ u a - w) = _; rw [e a ha]), b3]
            omega
        · rintro ⟨ψ, b1, b2, b3⟩
          have hr := b1 ρ (List.mem_cons_self ..)
          refine ⟨ψ ρ, hr.1, by omega, ?_, ψ, fun a ha => b1 a (List.mem_cons_of_mem _ ha), fun f hf => ?_, ?_⟩
          · have := b2 (ψ ρ) hr.2
            rw [ls_cons, if_pos rfl] at this
            omega
          · have := b2 f hf
            rw [ls_cons] at this
            unfold updN
            by_cases z : f = ψ ρ
            · rw [if_pos z]
              rw [if_pos z.symm] at this
              rw [← z]
              omega
            · rw [if_neg z]
              rw [if_neg (fun y => z y.symm)] at this
              omega
          · rw [b3, ls_cons]
            omega
      · by_cases y : load u + W ρ ≤ B u
        · simp only [if_pos y]
          have := plc_mn (W := W) (A := A) (B := B) (w := w) (F := F) l (updN load u (load u + W ρ)) (st + A ρ * (u - w)) b hnl hwF (fun f hf => by
            unfold updN
            by_cases z : f = u
            · rw [if_pos z, z]; exact y
            · rw [if_neg z]; exact hL f hf)
          exact mn_congr (fun c => ⟨fun z => ⟨y, z⟩, fun z => z.2⟩) this
        · simp only [if_neg y]
          exact ⟨Nat.le_refl _, fun c hc => absurd hc.1 y, Or.inl rfl⟩
/-- sums -/
theorem sm_add (f k : Nat → Nat) : ∀ n, sm (fun i => f i + k i) n = sm f n + sm k n
  | 0 => rfl
  | n + 1 => by
    show sm (fun i => f i + k i) n + (f n + k n) = (sm f n + f n) + (sm k n + k n)
    rw [sm_add f k n]
    omega
theorem sm_zero : ∀ n, sm (fun _ => 0) n = 0
  | 0 => rfl
  | n + 1 => by
    show sm (fun _ => 0) n + 0 = 0
    rw [sm_zero n]
theorem sm_comm (f : Nat → Nat → Nat) (m : Nat) : ∀ n, sm (fun i => sm (fun j => f i j) m) n = sm (fun j => sm (fun i => f i j) n) m
  | 0 => by
    show 0 = sm (fun _ => 0) m
    rw [sm_zero]
  | n + 1 => by
    show sm (fun i => sm (fun j => f i j) m) n + sm (fun j => f n j) m = sm (fun j => sm (fun i => f i j) n + f n j) m
    rw [sm_comm f m n, sm_add]
theorem sm_pick (v : Nat → Nat) (a : Nat) : ∀ n, sm (fun i => if i = a then v i else 0) n = if a < n then v a else 0
  | 0 => rfl
  | n + 1 => by
    show sm (fun i => if i = a then v i else 0) n + (if n = a then v n else 0) = _
    rw [sm_pick v a n]
    by_cases c : n = a
    · subst c
      rw [if_neg (by omega), if_pos rfl, if_pos (by omega)]
      omega
    · rw [if_neg c]
      by_cases z : a < n
      · rw [if_pos z, if_pos (by omega)]; omega
      · rw [if_neg z, if_neg (by omega)]
theorem sm_mul (f : Nat → Nat) (c : Nat) : ∀ n, sm f n * c = sm (fun i => f i * c) n
  | 0 => Nat.zero_mul c
  | n + 1 => by
    show (sm f n + f n) * c = sm (fun i => f i * c) n + f n * c
    rw [Nat.add_mul, sm_mul f c n]
theorem ls_rp (s : SS) (f : Nat → Nat) : ∀ n, ls f (rp s n) = sm (fun ρ => if (th s ρ && decide (hd (sK s) ρ = ρ)) = true then f ρ else 0) n
  | 0 => rfl
  | n + 1 => by
    show ls f (if (th s n && decide (hd (sK s) n = n)) = true then rp s n ++ [n] else rp s n) = sm _ n + (if (th s n && decide (hd (sK s) n = n)) = true then f n else 0)
    rw [← ls_rp s f n]
    by_cases c : (th s n && decide (hd (sK s) n = n)) = true
    · rw [if_pos c, if_pos c]
      simp [ls]
    · rw [if_neg c, if_neg c]
      omega
theorem ls_part {t : ST} {s : SS} (O : okS t s) (k : Nat → Nat → Nat) : ls (fun ρ => sm (fun r => if (th s r && decide (hd (sK s) r = ρ)) = true then k r ρ else 0) (tR t)) (rp s (tR t)) = sm (fun r => if th s r = true then k r (hd (sK s) r) else 0) (tR t) := by
  rw [ls_rp]
  have e1 : ∀ ρ, ρ < tR t → (if (th s ρ && decide (hd (sK s) ρ = ρ)) = true then sm (fun r => if (th s r && decide (hd (sK s) r = ρ)) = true then k r ρ else 0) (tR t) else 0) = sm (fun r => if ρ = hd (sK s) r then (if th s r = true then k r ρ else 0) else 0) (tR t) := fun ρ hρ => by
    by_cases c : (th s ρ && decide (hd (sK s) ρ = ρ)) = true
    · rw [if_pos c]
      refine sm_congr (fun r hr => ?_)
      by_cases z : hd (sK s) r = ρ
      · rw [if_pos z.symm, decide_eq_true z, Bool.and_true]
      · rw [decide_eq_false z, Bool.and_false, if_neg (show ¬ ρ = hd (sK s) r from fun y => z y.symm)]
        rfl
    · rw [if_neg c]
      refine (sm_zero (tR t)).symm.trans (sm_congr (fun r hr => ?_))
      by_cases z : ρ = hd (sK s) r
      · rw [if_pos z]
        have h1 := hd_hd (sK s) r
        rw [← z] at h1
        rw [h1] at c
        have h2 : ¬ th s ρ = true := by simpa using c
        have h3 := th_hd O r hr
        rw [← z] at h3
        rw [if_neg (by rw [← h3]; exact h2)]
      · rw [if_neg z]
  rw [sm_congr e1, sm_comm (fun ρ r => if ρ = hd (sK s) r then (if th s r = true then k r ρ else 0) else 0)]
  refine sm_congr (fun r hr => ?_)
  show sm (fun ρ => if ρ = hd (sK s) r then (if th s r = true then k r ρ else 0) else 0) (tR t) = _
  rw [sm_pick (fun ρ => if th s r = true then k r ρ else 0), if_pos (Nat.lt_of_le_of_lt (hd_le _ _) hr)]
theorem grp_bit {s : SS} {ρ r R : Nat} (hr : r < R) (h : hd (sK s) ρ = ρ) : (grp s ρ R).testBit r = (th s r && decide (hd (sK s) r = ρ)) := by
  unfold grp
  rw [mk_bit, decide_eq_true hr, h, Bool.true_and]
/-- what a plan of floors for the groups costs, and what stands on a floor then -/
def hCost (t : ST) (s : SS) (ψ : Nat → Nat) : Nat := sm (fun r => if th s r = true then tA t r * (ψ (hd (sK s) r) - sH s) else 0) (tR t)
def hLoad (t : ST) (s : SS) (ψ : Nat → Nat) (f : Nat) : Nat := sm (fun r => if th s r = true then (if ψ (hd (sK s) r) = f then tW t r else 0) else 0) (tR t)
def SA (t : ST) (s : SS) (c : Nat) : Prop := ∃ ψ : Nat → Nat, (∀ ρ, ρ < tR t → th s ρ = true → hd (sK s) ρ = ρ → sH s ≤ ψ ρ ∧ ψ ρ < tF t) ∧ (∀ f, f < tF t → hLoad t s ψ f ≤ tB t f) ∧ c = hCost t s ψ
theorem rp_nodup (s : SS) : ∀ n, (rp s n).Nodup
  | 0 => List.nodup_nil
  | n + 1 => by
    unfold rp
    split
    · rw [List.nodup_append]
      refine ⟨rp_nodup s n, List.nodup_cons.mpr ⟨by simp, List.nodup_nil⟩, fun a ha b hb => ?_⟩
      rw [List.mem_singleton] at hb
      have := (rp_mem.mp ha).1
      omega
    · exact rp_nodup s n
theorem ls_cost {t : ST} {s : SS} (O : okS t s) (ψ : Nat → Nat) : ls (fun ρ => gA t s ρ * (ψ ρ - sH s)) (rp s (tR t)) = hCost t s ψ := by
  unfold hCost
  rw [← ls_part O (fun r ρ => tA t r * (ψ ρ - sH s))]
  refine ls_congr (fun ρ hρ => ?_)
  have h := rp_mem.mp hρ
  show wOf (tA t) (grp s ρ (tR t)) (tR t) * (ψ ρ - sH s) = _
  unfold wOf
  rw [sm_mul]
  refine sm_congr (fun r hr => ?_)
  rw [grp_bit hr h.2.2]
  by_cases c : (th s r && decide (hd (sK s) r = ρ)) = true
  · rw [if_pos c, if_pos c]
  · rw [if_neg c, if_neg c, Nat.zero_mul]
theorem ls_load {t : ST} {s : SS} (O : okS t s) (ψ : Nat → Nat) (f : Nat) : ls (fun ρ => if ψ ρ = f then gW t s ρ else 0) (rp s (tR t)) = hLoad t s ψ f := by
  unfold hLoad
  rw [← ls_part O (fun r ρ => if ψ ρ = f then tW t r else 0)]
  refine ls_congr (fun ρ hρ => ?_)
  have h := rp_mem.mp hρ
  show (if ψ ρ = f then wOf (tW t) (grp s ρ (tR t)) (tR t) else 0) = _
  unfold wOf
  by_cases z : ψ ρ = f
  · rw [if_pos z]
    refine sm_congr (fun r hr => ?_)
    rw [grp_bit hr h.2.2, if_pos z]
  · rw [if_neg z]
    refine (sm_zero (tR t)).symm.trans (sm_congr (fun r hr => ?_))
    rw [if_neg z]
    split <;> rfl
theorem handN_mn {x : SX} (O : okX x) : mn (SA (xT x) (xS x)) 1000000 (handN x) := by
  refine mn_congr (fun c => ?_) (plc_mn (rp (xS x) (tR (xT x))) (fun _ => 0) 0 1000000 (rp_nodup _ _) O.S.2.2.1 (fun _ _ => Nat.zero_le _))
  constructor
  · rintro ⟨ψ, h1, h2, h3⟩
    refine ⟨ψ, fun ρ a b c => h1 ρ (rp_mem.mpr ⟨a, b, c⟩), fun f hf => ?_, ?_⟩
    · have := h2 f hf
      rw [Nat.zero_add, ls_load O.S] at this
      exact this
    · rw [h3, Nat.zero_add, ls_cost O.S]
  · rintro ⟨ψ, h1, h2, h3⟩
    refine ⟨ψ, fun ρ a => h1 ρ (rp_mem.mp a).1 (rp_mem.mp a).2.1 (rp_mem.mp a).2.2, fun f hf => ?_, ?_⟩
    · rw [Nat.zero_add, ls_load O.S]
      exact h2 f hf
    · rw [h3, Nat.zero_add, ls_cost O.S]
theorem SA_now {t : ST} {s : SS} (T : okT t) (O : okS t s) : ∃ c, c ≤ 360 ∧ SA t s c := by
  have hR := T.2.2.1
  have hF := T.2.1
  have e : ∀ r, r < tR t → sP s (hd (sK s) r) = sP s r := fun r hr => sP_hd O r hr
  refine ⟨hCost t s (sP s), ?_, sP s, fun ρ a b c => ?_, fun f hf => ?_, rfl⟩
  · have h := sm_le (f := fun r => if th s r = true then tA t r * (sP s (hd (sK s) r) - sH s) else 0) (b := 45) (n := tR t) (fun r hr => by
      have h1 := (T.2.2.2.1 r hr).2.2.1
      have h2 := (O.1 r hr).1
      show (if th s r = true then tA t r * (sP s (hd (sK s) r) - sH s) else 0) ≤ 45
      rw [e r hr]
      split
      · exact Nat.le_trans (Nat.mul_le_mul h1 (show sP s r - sH s ≤ 5 by omega)) (by decide)
      · omega)
    unfold hCost
    omega
  · have h1 := (O.1 ρ a).1
    have h2 := O.2.2.2.2.2.1 ρ a
    unfold th at b
    refine ⟨?_, h1⟩
    rcases Nat.lt_or_ge (sP s ρ) (sH s) with z | z
    · rw [h2.mpr z] at b
      exact absurd b (by decide)
    · exact z
  · have := O.2.2.2.2.2.2.2 f hf
    have e2 : hLoad t s (sP s) f = wOf (tW t) (onF s f (tR t)) (tR t) := by
      refine sm_congr (fun r hr => ?_)
      show (if th s r = true then (if sP s (hd (sK s) r) = f then tW t r else 0) else 0) = (if (onF s f (tR t)).testBit r then tW t r else 0)
      rw [e r hr]
      unfold onF
      rw [mk_bit, decide_eq_true hr, Bool.true_and]
      by_cases c1 : th s r = true <;> by_cases c2 : sP s r = f <;> simp [c1, c2]
    rw [e2]
    exact this
