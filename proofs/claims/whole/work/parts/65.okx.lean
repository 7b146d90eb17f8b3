/-! what always holds, behind each operation -/
theorem onF_bit {s : SS} {f R r : Nat} (hr : r < R) : (onF s f R).testBit r = (th s r && decide (sP s r = f)) := by
  unfold onF
  rw [mk_bit, decide_eq_true hr, Bool.true_and]
theorem sm_mono {f k : Nat → Nat} : ∀ {n}, (∀ r, r < n → f r ≤ k r) → sm f n ≤ sm k n
  | 0, _ => Nat.le_refl _
  | n + 1, h => Nat.add_le_add (sm_mono (fun r hr => h r (by omega))) (h n (by omega))
theorem sm_add2 {f k : Nat → Nat} : ∀ n, sm (fun r => f r + k r) n = sm f n + sm k n
  | 0 => rfl
  | n + 1 => by
    unfold sm
    rw [sm_add2 n]
    omega
theorem sm_one {k v : Nat} : ∀ n, sm (fun r => if r = k then v else 0) n ≤ v
  | 0 => Nat.zero_le _
  | n + 1 => by
    have e : ∀ m, m ≤ k → sm (fun r => if r = k then v else 0) m = 0 := by
      intro m
      induction m with
      | zero => intro _; rfl
      | succ m ih =>
        intro hm
        show sm _ m + (if m = k then v else 0) = 0
        rw [ih (by omega), if_neg (by omega)]
    show sm _ n + (if n = k then v else 0) ≤ v
    by_cases z : n = k
    · rw [e n (by omega), if_pos z]
      omega
    · rw [if_neg z]
      exact sm_one n
theorem wOf_le {w : Nat → Nat} {a b R : Nat} (h : ∀ r, r < R → a.testBit r = true → b.testBit r = true) : wOf w a R ≤ wOf w b R := by
  refine sm_mono (fun r hr => ?_)
  by_cases c : a.testBit r = true
  · rw [if_pos c, if_pos (h r hr c)]
    exact Nat.le_refl _
  · rw [if_neg c]
    exact Nat.zero_le _
theorem wOf_un {w : Nat → Nat} {a b c R : Nat} (h : ∀ r, r < R → a.testBit r = true → b.testBit r = true ∨ c.testBit r = true) : wOf w a R ≤ wOf w b R + wOf w c R := by
  unfold wOf
  rw [← sm_add2]
  refine sm_mono (fun r hr => ?_)
  by_cases z : a.testBit r = true
  · rw [if_pos z]
    rcases h r hr z with y | y
    · rw [if_pos y]; omega
    · rw [if_pos y]; omega
  · rw [if_neg z]
    exact Nat.zero_le _
theorem wOf_1 {w : Nat → Nat} {a b k R : Nat} (h : ∀ r, r < R → a.testBit r = true → b.testBit r = true ∨ r = k) : wOf w a R ≤ wOf w b R + w k := by
  have h1 : wOf w a R ≤ wOf w b R + sm (fun r => if r = k then w k else 0) R := by
    unfold wOf
    rw [← sm_add2]
    refine sm_mono (fun r hr => ?_)
    by_cases z : a.testBit r = true
    · rw [if_pos z]
      rcases h r hr z with y | y
      · rw [if_pos y]; omega
      · rw [if_pos y, y]; omega
    · rw [if_neg z]
      exact Nat.zero_le _
  have h2 := sm_one (k := k) (v := w k) R
  omega
theorem th_f {s : SS} {r : Nat} : (th s r = true) = ((sD s).testBit r = false) := by
  unfold th
  cases (sD s).testBit r <;> simp
theorem carS_ok {t : ST} {s : SS} (O : okS t s) {r f n : Nat} (hr : r < tR t) (ht : th s r = true) (hf : sP s r < f) (hF : f < tF t) (hw : wOf (tW t) (onF s f (tR t)) (tR t) + wOf (tW t) (grp s r (tR t)) (tR t) ≤ tB t f) : okS t (carS s (grp s r (tR t)) f n) := by
  have hb : ∀ e, e < tR t → (grp s r (tR t)).testBit e = (th s e && decide (hd (sK s) e = hd (sK s) r)) := fun e he => by
    unfold grp
    rw [mk_bit, decide_eq_true he, Bool.true_and]
  have hm : ∀ e, e < tR t → (grp s r (tR t)).testBit e = true → th s e = true ∧ sP s e = sP s r := fun e he h => by
    rw [hb e he] at h
    have h := Bool.and_eq_true_iff.mp h
    refine ⟨h.1, ?_⟩
    rw [← sP_hd O e he, of_decide_eq_true h.2, sP_hd O r hr]
  have hD := O.2.2.2.2.2.1
  have hH : sH s ≤ sP s r := by
    rw [th_f] at ht
    have := hD r hr
    rw [ht] at this
    exact Nat.not_lt.mp (fun z => Bool.false_ne_true (this.mpr z))
  have eP : ∀ e, sP (carS s (grp s r (tR t)) f n) e = if (grp s r (tR t)).testBit e = true then f else sP s e := fun e => rfl
  refine ⟨fun e he => ⟨?_, (O.1 e he).2⟩, O.2.1, O.2.2.1, O.2.2.2.1, ?_, fun e he => ?_, fun e he h3 => ?_, fun g hg => ?_⟩
  · rw [eP]
    split
    · exact hF
    · exact (O.1 e he).1
  · have := O.2.2.2.2.1
    show sL s - n ≤ sE s
    omega
  · rw [eP]
    show (sD s).testBit e = true ↔ _ < sH s
    by_cases c : (grp s r (tR t)).testBit e = true
    · rw [if_pos c]
      have := (hm e he c).1
      rw [th_f] at this
      rw [this]
      exact ⟨fun z => absurd z Bool.false_ne_true, fun z => by omega⟩
    · rw [if_neg c]
      exact hD e he
  · have h3 : sK s e = 3 := h3
    obtain ⟨h0, hp, hd0⟩ := O.2.2.2.2.2.2.1 e he h3
    refine ⟨h0, ?_, hd0⟩
    rw [eP, eP, hb e he, hb (e - 1) (by omega), th_dn O he h3, hd_3 h0 h3, hp]
  · show wOf (tW t) (onF (carS s (grp s r (tR t)) f n) g (tR t)) (tR t) ≤ tB t g
    have hO := O.2.2.2.2.2.2.2 g hg
    have ho : ∀ e, e < tR t → (onF (carS s (grp s r (tR t)) f n) g (tR t)).testBit e = true → th s e = true ∧ (if (grp s r (tR t)).testBit e = true then f else sP s e) = g := fun e he h => by
      rw [onF_bit he] at h
      have h := Bool.and_eq_true_iff.mp h
      exact ⟨h.1, of_decide_eq_true h.2⟩
    by_cases z : g = f
    · subst z
      refine Nat.le_trans (wOf_un (b := onF s g (tR t)) (c := grp s r (tR t)) (fun e he h => ?_)) hw
      have := ho e he h
      by_cases c : (grp s r (tR t)).testBit e = true
      · exact Or.inr c
      · rw [if_neg c] at this
        refine Or.inl ?_
        rw [onF_bit he, this.1, decide_eq_true this.2]
        rfl
    · refine Nat.le_trans (wOf_le (fun e he h => ?_)) hO
      have := ho e he h
      by_cases c : (grp s r (tR t)).testBit e = true
      · rw [if_pos c] at this
        exact absurd this.2.symm z
      · rw [if_neg c] at this
        rw [onF_bit he, this.1, decide_eq_true this.2]
        rfl
theorem decS_ok {t : ST} {s : SS} (O : okS t s) (hw : sH s < tF t) : okS t (decS s (tR t)) := by
  have hD := O.2.2.2.2.2.1
  have hb : ∀ e, e < tR t → (dSet s (tR t)).testBit e = (th s e && decide (sP s e = sH s)) := fun e he => onF_bit he
  have eD : ∀ e, e < tR t → (sD (decS s (tR t))).testBit e = ((sD s).testBit e || (th s e && decide (sP s e = sH s))) := fun e he => by
    show (sD s ||| dSet s (tR t)).testBit e = _
    rw [Nat.testBit_or, hb e he]
  have eV : ∀ e, sV (decS s (tR t)) e = if dmp s (tR t) e = true then sV s e - 1 else sV s e := fun e => rfl
  refine ⟨fun e he => ⟨(O.1 e he).1, ?_, (O.1 e he).2.2⟩, Nat.or_lt_two_pow O.2.1 (mk_lt _ _), ?_, O.2.2.2.1, Nat.le_refl _, fun e he => ?_, fun e he h3 => ?_, fun g hg => ?_⟩
  · have := (O.1 e he).2.1
    rw [eV]
    split <;> omega
  · show sH s + 1 ≤ tF t
    omega
  · rw [eD e he]
    show _ ↔ sP s e < sH s + 1
    have h1 := hD e he
    cases hc : (sD s).testBit e with
    | true =>
      have := h1.mp hc
      exact ⟨fun _ => by omega, fun _ => rfl⟩
    | false =>
      have ht : th s e = true := by rw [th_f]; exact hc
      rw [hc] at h1
      have h2 : ¬ sP s e < sH s := fun z => Bool.false_ne_true (h1.mpr z)
      rw [ht, Bool.true_and, Bool.false_or, decide_eq_true_iff]
      omega
  · have h3 : sK s e = 3 := h3
    obtain ⟨h0, hp, hd0⟩ := O.2.2.2.2.2.2.1 e he h3
    refine ⟨h0, hp, ?_⟩
    rw [eD e he, eD (e - 1) (by omega), hd0, th_dn O he h3, hp]
  · show wOf (tW t) (onF (decS s (tR t)) g (tR t)) (tR t) ≤ tB t g
    refine Nat.le_trans (wOf_le (fun e he h => ?_)) (O.2.2.2.2.2.2.2 g hg)
    rw [onF_bit he] at h
    have h := Bool.and_eq_true_iff.mp h
    have h1 := h.1
    rw [th_f, eD e he] at h1
    have h1 := (Bool.or_eq_false_iff.mp h1).1
    have h2 : sP s e = g := of_decide_eq_true h.2
    rw [onF_bit he, decide_eq_true h2, Bool.and_true, th_f]
    exact h1
theorem newS_ok {t : ST} {s : SS} (O : okS t s) {r f : Nat} (hr : r < tR t) (ht : th s r = false) (hf : sH s ≤ f) (hF : f < tF t) (hw : wOf (tW t) (onF s f (tR t)) (tR t) + tW t r ≤ tB t f) : okS t (newS s r f (tR t)) := by
  have hD := O.2.2.2.2.2.1
  have eP : ∀ e, sP (newS s r f (tR t)) e = updN (sP s) r f e := fun e => rfl
  have eK : ∀ e, sK (newS s r f (tR t)) e = if e = r then 1 else if e = r + 1 ∧ sK s e = 3 then 0 else sK s e := fun e => rfl
  have eD : ∀ e, e < tR t → (sD (newS s r f (tR t))).testBit e = ((sD s).testBit e && !decide (e = r)) := fun e he => clr_bit he
  refine ⟨fun e he => ⟨?_, (O.1 e he).2.1, ?_⟩, mk_lt _ _, O.2.2.1, O.2.2.2.1, O.2.2.2.2.1, fun e he => ?_, fun e he h3 => ?_, fun g hg => ?_⟩
  · rw [eP]
    by_cases z : e = r
    · rw [z, updN_at]; exact hF
    · rw [updN_ne z]; exact (O.1 e he).1
  · have := (O.1 e he).2.2
    rw [eK]
    repeat' split
    all_goals omega
  · rw [eD e he, eP]
    show _ ↔ _ < sH s
    by_cases z : e = r
    · rw [z, updN_at, decide_eq_true rfl, Bool.not_true, Bool.and_false]
      exact ⟨fun y => absurd y Bool.false_ne_true, fun y => by omega⟩
    · rw [updN_ne z, decide_eq_false z, Bool.not_false, Bool.and_true]
      exact hD e he
  · rw [eK] at h3
    have hz : e ≠ r := fun z => by rw [if_pos z] at h3; omega
    rw [if_neg hz] at h3
    have hz1 : ¬ (e = r + 1 ∧ sK s e = 3) := fun z => by rw [if_pos z] at h3; omega
    rw [if_neg hz1] at h3
    have hz2 : e ≠ r + 1 := fun z => hz1 ⟨z, h3⟩
    obtain ⟨h0, hp, hd0⟩ := O.2.2.2.2.2.2.1 e he h3
    refine ⟨h0, ?_, ?_⟩
    · rw [eP, eP, updN_ne hz, updN_ne (by omega)]; exact hp
    · rw [eD e he, eD (e - 1) (by omega), decide_eq_false hz, decide_eq_false (show ¬ e - 1 = r by omega), hd0]
  · show wOf (tW t) (onF (newS s r f (tR t)) g (tR t)) (tR t) ≤ tB t g
    have hO := O.2.2.2.2.2.2.2 g hg
    have ho : ∀ e, e < tR t → e ≠ r → (onF (newS s r f (tR t)) g (tR t)).testBit e = true → (onF s g (tR t)).testBit e = true := fun e he z h => by
      rw [onF_bit he] at h
      have h := Bool.and_eq_true_iff.mp h
      have h1 := h.1
      rw [th_f, eD e he, decide_eq_false z, Bool.not_false, Bool.and_true, ← th_f] at h1
      have h2 := of_decide_eq_true h.2
      rw [eP, updN_ne z] at h2
      rw [onF_bit he, h1, decide_eq_true h2]
      rfl
    by_cases z : g = f
    · subst z
      refine Nat.le_trans (wOf_1 (b := onF s g (tR t)) (k := r) (fun e he h => ?_)) hw
      by_cases y : e = r
      · exact Or.inr y
      · exact Or.inl (ho e he y h)
    · refine Nat.le_trans (wOf_le (fun e he h => ?_)) hO
      by_cases y : e = r
      · subst y
        rw [onF_bit he] at h
        have h := of_decide_eq_true (Bool.and_eq_true_iff.mp h).2
        rw [eP, updN_at] at h
        exact absurd h.symm z
      · exact ho e he y h
theorem wipeX_ok {x : SX} (O : okX x) : okX (wipeX x) := ⟨O.1, O.2.1, O.2.2.1, O.2.2.2.1, O.2.2.2.2.1, O.2.2.2.2.2.1, O.2.2.2.2.2.2.1, Nat.zero_le _, fun i hi => absurd hi (Nat.not_lt_zero i)⟩
theorem wrX_ok {x : SX} (O : okX x) (a : Int32) (v : Int64) : okX (wrX x a v) := by
  unfold wrX
  split
  · split
    · rename_i c
      refine ⟨O.1, O.2.1, O.2.2.1, O.2.2.2.1, O.2.2.2.2.1, O.2.2.2.2.2.1, O.2.2.2.2.2.2.1, c, fun i hi => ?_⟩
      show wrT x _ v i < 256
      unfold wrT
      split
      · exact byt_lt _ _
      · exact O.2.2.2.2.2.2.2.2 i (by omega)
    · exact O
  · exact O
theorem effX_ok {x : SX} (O : okX x) (a : Int32) : okX (effX x a) := by
  unfold effX
  split
  · rename_i c
    obtain ⟨e, he, rfl⟩ := inr_t c
    rw [nI_clamp (by omega)]
    have h := O.2.1
    refine O.now ⟨h.1, h.2.1, h.2.2.1, ?_, ?_, h.2.2.2.2.2⟩
    · show e ≤ 99
      omega
    · have := h.2.2.2.2.1
      show sL (xS x) + e - sE (xS x) ≤ e
      omega
  · exact O
theorem carX_ok {x : SX} (O : okX x) (a b : Int32) : okX (carX x a b) := by
  unfold carX
  split
  · rename_i c
    obtain ⟨c1, c2⟩ := Bool.and_eq_true_iff.mp c
    obtain ⟨c3, c4⟩ := Bool.and_eq_true_iff.mp c1
    obtain ⟨r, hr, rfl⟩ := inr_t c3
    obtain ⟨f, hf, rfl⟩ := inr_t c4
    have hR := O.R
    have hF := O.F
    rw [nI_clamp (by omega), nI_clamp (by omega)] at c2
    rw [nI_clamp (by omega), nI_clamp (by omega)]
    unfold carB at c2
    obtain ⟨d1, d2⟩ := Bool.and_eq_true_iff.mp c2
    obtain ⟨d3, d4⟩ := Bool.and_eq_true_iff.mp d1
    obtain ⟨d5, d6⟩ := Bool.and_eq_true_iff.mp d3
    exact O.push.now (carS_ok O.S hr d5 (of_decide_eq_true d6) hf (of_decide_eq_true d2))
  · exact O
theorem decX_ok {x : SX} (O : okX x) : okX (decX x) := by
  unfold decX
  split
  · rename_i c
    exact O.push.now (decS_ok O.S c)
  · exact O
theorem ancX_ok {x : SX} (O : okX x) (a b : Int32) : okX (ancX x a b) := by
  unfold ancX
  split
  · rename_i c
    obtain ⟨c1, c2⟩ := Bool.and_eq_true_iff.mp c
    obtain ⟨c3, c4⟩ := Bool.and_eq_true_iff.mp c1
    obtain ⟨r, hr, rfl⟩ := inr_t c3
    obtain ⟨f, hf, rfl⟩ := inr_t c4
    have hR := O.R
    have hF := O.F
    rw [nI_clamp (by omega), nI_clamp (by omega)] at c2
    rw [nI_clamp (by omega), nI_clamp (by omega)]
    unfold ancB at c2
    obtain ⟨d1, d2⟩ := Bool.and_eq_true_iff.mp c2
    obtain ⟨d3, d4⟩ := Bool.and_eq_true_iff.mp d1
    obtain ⟨d5, d6⟩ := Bool.and_eq_true_iff.mp d3
    have ht : th (xS x) r = false := by simpa using d5
    exact O.push.now (newS_ok O.S hr ht (of_decide_eq_true d4) hf (of_decide_eq_true d2))
  · exact O
theorem undoX_ok {x : SX} (O : okX x) : okX (undoX x) := by
  unfold undoX
  cases h : (xA x).getLast? with
  | none => exact O
  | some s =>
    have hs : s ∈ xA x := List.mem_of_getLast? h
    have hl := O.2.2.2.1
    refine ⟨O.1, O.2.2.2.2.1 s hs, O.2.2.1, ?_, fun s' hs' => O.2.2.2.2.1 s' (List.dropLast_subset _ hs'), O.2.2.2.2.2⟩
    show ((xA x).dropLast).length ≤ 10
    rw [List.length_dropLast]
    omega
theorem idxX_ok {x : SX} (O : okX x) (a b : Int32) : okX (idxX x a b) := by
  unfold idxX
  split
  · rename_i c
    obtain ⟨c3, c4⟩ := Bool.and_eq_true_iff.mp c
    obtain ⟨f, hf, rfl⟩ := inr_t c4
    have hF := O.F
    rw [nI_clamp (show f < 2 ^ 31 by omega)]
    refine ⟨O.1, O.2.1, fun r hr => ?_, O.2.2.2⟩
    show updN (xI x) _ f r < _
    unfold updN
    split
    · exact hf
    · exact O.2.2.1 r hr
  · exact O
theorem menX_ok {x : SX} (O : okX x) : okX (menX x) := by
  refine ⟨O.1, O.2.1, fun r hr => ?_, O.2.2.2⟩
  show menI (xS x) (xI x) _ r < _
  unfold menI
  split
  · exact (O.S.1 r hr).1
  · exact O.2.2.1 r hr
theorem keepX_ok {x : SX} (O : okX x) (a : Int32) : okX (keepX x a) := by
  have hk : okK (xT x) (some (xS x, xI x)) := fun s ix z => by
    cases z
    exact ⟨O.2.1, O.2.2.1⟩
  unfold keepX
  split
  · split
    · exact ⟨O.1, O.2.1, O.2.2.1, O.2.2.2.1, O.2.2.2.2.1, hk, O.2.2.2.2.2.2⟩
    · exact ⟨O.1, O.2.1, O.2.2.1, O.2.2.2.1, O.2.2.2.2.1, O.2.2.2.2.2.1, hk, O.2.2.2.2.2.2.2⟩
  · exact O
theorem againX_ok {x : SX} (O : okX x) (a : Int32) : okX (againX x a) := by
  unfold againX
  split
  · cases h : slotOf x a with
    | none => exact O
    | some k =>
      have hk : okS (xT x) k.1 ∧ ∀ r, r < tR (xT x) → k.2 r < tF (xT x) := by
        unfold slotOf at h
        split at h
        · exact O.2.2.2.2.2.1 k.1 k.2 h
        · exact O.2.2.2.2.2.2.1 k.1 k.2 h
      exact ⟨O.1, hk.1, hk.2, Nat.zero_le _, (fun s hs => by cases hs), O.2.2.2.2.2⟩
  · exact O
