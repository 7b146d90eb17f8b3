/-! CONSTRUCTORS that make objects -/
def W9 : Nat → Int32 := fun j => if j = 6 then 9 else if j = 5 then 9 else 0
def AX (g : PvG) (h : PvH) (g' : PvG) (h' : PvH) (o m : Nat) : Prop := g'.1 = m ∧ o < m ∧ (∀ a, a ≤ o → pv_tg g' a = pv_tg g a) ∧ (∀ a k, a < o → pv_rf g' a k = pv_rf g a k) ∧ (∀ a, a < o → h' a = h a)
theorem AL.ax {g0 : PvG} {h0 : PvH} {o m : Nat} {l : List (Nat × Nat × Nat × Nat)} {r : List (Nat × Nat × Nat × Nat × Nat)} {g : PvG} {h : PvH} {W : Nat → Int32} (A : AL g0 h0 o m l r g h W) : AX g0 h0 g h o m := ⟨A.1, A.2.1, A.2.2.1, A.2.2.2.1, A.2.2.2.2.1⟩
theorem AL.z {g0 : PvG} {h0 : PvH} {o m : Nat} {l : List (Nat × Nat × Nat × Nat)} {r : List (Nat × Nat × Nat × Nat × Nat)} {g : PvG} {h : PvH} {W : Nat → Int32} (A : AL g0 h0 o m l r g h W) {a : Nat} (h1 : o < a) (h2 : a < m) : h a = fun _ => 0 := A.2.2.2.2.2.2.1 a h1 h2
theorem AL.w {g0 : PvG} {h0 : PvH} {o m : Nat} {l : List (Nat × Nat × Nat × Nat)} {r : List (Nat × Nat × Nat × Nat × Nat)} {g : PvG} {h : PvH} {W : Nat → Int32} (A : AL g0 h0 o m l r g h W) : h o = W := A.2.2.2.2.2.1
theorem AL.f {g0 : PvG} {h0 : PvH} {o m : Nat} {l : List (Nat × Nat × Nat × Nat)} {r : List (Nat × Nat × Nat × Nat × Nat)} {g : PvG} {h : PvH} {W : Nat → Int32} (A : AL g0 h0 o m l r g h W) (k a t n : Nat) (he : (k, a, t, n) ∈ l) : pv_tg g a = (t, n) ∧ pv_rf g o k = some a := (A.2.2.2.2.2.2.2.1 _ he).2
theorem AL.gS {g0 : PvG} {h0 : PvH} {o : Nat} {g : PvG} {h : PvH} {W : Nat → Int32} (A : AL g0 h0 o (o + 4) [(0, o + 1, 100, 8), (1, o + 2, 100, 8), (2, o + 3, 100, 8)] [] g h W) (T : (pv_tg g0 o).1 = 6) : gS g o := by
  have f0 := A.f 0 (o + 1) 100 8 (by simp)
  have f1 := A.f 1 (o + 2) 100 8 (by simp)
  have f2 := A.f 2 (o + 3) 100 8 (by simp)
  exact ⟨by rw [A.2.2.1 o (Nat.le_refl o)]; exact T, f0.2, f1.2, f2.2, f0.1, f1.1, f2.1⟩
theorem c38S {d : Nat} {P : PvP} {g : PvG} {h : PvH} {o : Nat} (hb : g.1 = o + 1) (ho : o < 800) (T : (pv_tg g o).1 = 6) (hz : h o = fun _ => 0) (hP : ∀ g' h', AX g h g' h' o (o + 4) → gS g' o → h' o = W9 → (∀ a, o < a → a < o + 4 → h' a = fun _ => 0) → P none g' h') : pv_run (d + 1) 38 [.ref o] g h P := by
  refine c38 hb ho T (fun g' h' A => hP g' h' A.ax (A.gS T) ?_ (fun a h1 h2 => A.z h1 h2))
  rw [A.w, hz]
  rfl
theorem c51T {d : Nat} {P : PvP} {g : PvG} {h : PvH} {o : Nat} (hb : g.1 = o + 1) (ho : o < 800) (T : (pv_tg g o).1 = 7) (hP : ∀ g' h', AX g h g' h' o (o + 8) → gT g' o → h' o = h o → (∀ a, o < a → a < o + 8 → h' a = fun _ => 0) → P none g' h') : pv_run (d + 1) 51 [.ref o] g h P := by
  refine c51 hb ho T (fun g' h' A => hP g' h' A.ax ?_ A.w (fun a h1 h2 => A.z h1 h2))
  have f1 := A.f 1 (o + 1) 100 5 (by simp)
  have f2 := A.f 3 (o + 2) 100 8 (by simp)
  have f3 := A.f 4 (o + 3) 100 8 (by simp)
  have f4 := A.f 5 (o + 4) 100 8 (by simp)
  have f5 := A.f 6 (o + 5) 100 8 (by simp)
  have f6 := A.f 7 (o + 6) 100 8 (by simp)
  have f7 := A.f 8 (o + 7) 100 8 (by simp)
  exact ⟨by rw [A.2.2.1 o (Nat.le_refl o)]; exact T, f1.2, f2.2, f3.2, f4.2, f5.2, f6.2, f7.2, f1.1, f2.1, f3.1, f4.1, f5.1, f6.1, f7.1⟩
theorem gS.tr {g g' : PvG} {o : Nat} (G : gS g o) (ht : ∀ a, o ≤ a → a ≤ o + 3 → pv_tg g' a = pv_tg g a) (hr : ∀ k, pv_rf g' o k = pv_rf g o k) : gS g' o := by
  unfold gS at G ⊢
  rw [ht o (by omega) (by omega), ht (o + 1) (by omega) (by omega), ht (o + 2) (by omega) (by omega), ht (o + 3) (by omega) (by omega), hr, hr, hr]
  exact G
theorem gT.tr {g g' : PvG} {o : Nat} (G : gT g o) (ht : ∀ a, o ≤ a → a ≤ o + 7 → pv_tg g' a = pv_tg g a) (hr : ∀ k, pv_rf g' o k = pv_rf g o k) : gT g' o := by
  unfold gT at G ⊢
  rw [ht o (by omega) (by omega), ht (o + 1) (by omega) (by omega), ht (o + 2) (by omega) (by omega), ht (o + 3) (by omega) (by omega), ht (o + 4) (by omega) (by omega), ht (o + 5) (by omega) (by omega), ht (o + 6) (by omega) (by omega), ht (o + 7) (by omega) (by omega), hr, hr, hr, hr, hr, hr, hr]
  exact G
theorem c37 {d : Nat} {P : PvP} {g : PvG} {h : PvH} {o : Nat} (hb : g.1 = o + 1) (ho : o < 700) (T : (pv_tg g o).1 = 5) (hP : ∀ g' h', AX g h g' h' o (o + 6) → pv_rf g' o 1 = some (o + 1) → pv_rf g' o 2 = some (o + 5) → gS g' (o + 1) → pv_tg g' (o + 5) = (100, 8) → h' o = h o → P none g' h') : pv_run (d + 2) 37 [.ref o] g h P := by
  rw [e37, z37_0, z37_1 (by simp [pv_cat]), z37_4, n37_5]
  refine ⟨by omega, by decide, by decide, ?_⟩
  rw [y37_8, hb, z37_9 (by simp [pv_cat, Value.category]) (by decide)]
  have t1 : ∀ a, a ≤ o → pv_tg (pv_newO g 6 0) a = pv_tg g a := fun a ha => nO_t (by omega)
  have r1 : ∀ a k, a ≤ o → pv_rf (pv_newO g 6 0) a k = pv_rf g a k := fun a k ha => nO_r (by omega)
  have h1 : ∀ a, a ≤ o → pv_newH g h a = h a := fun a ha => nH_n (by omega)
  refine c38S (by show g.1 + 1 = _; rw [hb]) (by omega) (by rw [← hb, nO_ta]) (by rw [← hb, nH_a]) (fun g2 h2 A S w z => ?_)
  obtain ⟨a1, a2, a3, a4, a5⟩ := A
  simp only [pv_catN, pv_cat1, pv_cat2, pv_cat3, pv_catL, Option.toList, List.nil_append, List.cons_append, List.append_nil, pv_rfS, pn_i, pn_r, pn_n, pn_o, true_and, and_true, Nat.le_refl, and_self, true_implies, false_implies, not_true_eq_false, not_false_eq_true, pv_b0, pv_b01, pv_bn0, pv_b1, Bool.false_eq_true, Bool.true_eq_false, Bool.not_false, Bool.not_true, pv_bT, pv_bF, eq_self]
  rw [z37_12]
  refine ⟨by rw [a3 o (by omega), t1 o (Nat.le_refl o)]; exact T, ?_⟩
  rw [z37_15, z37_16, n37_18]
  have b3 : (pv_sr g2 o 1 (some (o + 1))).1 = o + 5 := by show g2.1 = _; omega
  refine ⟨by omega, by decide, by decide, ?_⟩
  rw [z37_20]
  refine ⟨by rw [nO_t (by omega), sr_tg, a3 o (by omega), t1 o (Nat.le_refl o)]; exact T, ?_⟩
  show pv_E (d + 1) 37 P 23 _ [] 5 39 _ _
  rw [z37_23, b3]
  have q : ∀ a k, a < o + 5 → ¬ (a = o) → pv_rf (pv_sr (pv_newO (pv_sr g2 o 1 (some (o + 1))) 100 8) o 2 (some (o + 5))) a k = pv_rf g2 a k := fun a k x y => by rw [sr_ne (by omega), nO_r (by omega), sr_ne (by omega)]
  have qt : ∀ a, a < o + 5 → pv_tg (pv_sr (pv_newO (pv_sr g2 o 1 (some (o + 1))) 100 8) o 2 (some (o + 5))) a = pv_tg g2 a := fun a x => by rw [sr_tg, nO_t (by omega), sr_tg]
  refine hP _ _ ⟨?_, by omega, fun a ha => ?_, fun a k ha => ?_, fun a ha => ?_⟩ ?_ sr_at (S.tr (fun a x y => qt a (by omega)) (fun k => q _ k (by omega) (by omega))) ?_ ?_
  · show (pv_sr g2 o 1 (some (o + 1))).1 + 1 = _
    rw [b3]
  · rw [qt a (by omega), a3 a (by omega), t1 a ha]
  · rw [q a k (by omega) (by omega), a4 a k (by omega), r1 a k (by omega)]
  · rw [nH_n (by omega), a5 a (by omega), h1 a (by omega)]
  · rw [sr_ne (by omega), nO_r (by omega), sr_at]
  · rw [sr_tg, ← b3, nO_ta]
  · rw [nH_n (by omega), a5 o (by omega), h1 o (Nat.le_refl o)]
theorem c16 {d : Nat} {P : PvP} {g : PvG} {h : PvH} {o : Nat} (hb : g.1 = o + 1) (ho : o < 700) (T : (pv_tg g o).1 = 4) (hP : ∀ g' h', AX g h g' h' o (o + 10) → pv_rf g' o 0 = some (o + 1) → pv_rf g' o 4 = some (o + 9) → gT g' (o + 1) → pv_tg g' (o + 9) = (100, 5) → P none g' h') : pv_run (d + 2) 16 [.ref o] g h P := by
  rw [e16, z16_0, z16_1 (by simp [pv_cat]), z16_4, n16_5]
  refine ⟨by omega, by decide, by decide, ?_⟩
  rw [y16_8, hb, z16_9 (by simp [pv_cat, Value.category]) (by decide)]
  have t1 : ∀ a, a ≤ o → pv_tg (pv_newO g 7 0) a = pv_tg g a := fun a ha => nO_t (by omega)
  have r1 : ∀ a k, a ≤ o → pv_rf (pv_newO g 7 0) a k = pv_rf g a k := fun a k ha => nO_r (by omega)
  have h1 : ∀ a, a ≤ o → pv_newH g h a = h a := fun a ha => nH_n (by omega)
  refine c51T (by show g.1 + 1 = _; rw [hb]) (by omega) (by rw [← hb, nO_ta]) (fun g2 h2 A S w z => ?_)
  obtain ⟨a1, a2, a3, a4, a5⟩ := A
  simp only [pv_catN, pv_cat1, pv_cat2, pv_cat3, pv_catL, Option.toList, List.nil_append, List.cons_append, List.append_nil, pv_rfS, pn_i, pn_r, pn_n, pn_o, true_and, and_true, Nat.le_refl, and_self, true_implies, false_implies, not_true_eq_false, not_false_eq_true, pv_b0, pv_b01, pv_bn0, pv_b1, Bool.false_eq_true, Bool.true_eq_false, Bool.not_false, Bool.not_true, pv_bT, pv_bF, eq_self]
  rw [z16_12]
  refine ⟨by rw [a3 o (by omega), t1 o (Nat.le_refl o)]; exact T, ?_⟩
  rw [z16_15, z16_16, n16_17]
  have b3 : (pv_sr g2 o 0 (some (o + 1))).1 = o + 9 := by show g2.1 = _; omega
  refine ⟨by omega, by decide, by decide, ?_⟩
  rw [z16_19]
  refine ⟨by rw [nO_t (by omega), sr_tg, a3 o (by omega), t1 o (Nat.le_refl o)]; exact T, ?_⟩
  show pv_E (d + 1) 16 P 22 _ [] 9 67 _ _
  rw [z16_22, b3]
  have q : ∀ a k, a < o + 9 → ¬ (a = o) → pv_rf (pv_sr (pv_newO (pv_sr g2 o 0 (some (o + 1))) 100 5) o 4 (some (o + 9))) a k = pv_rf g2 a k := fun a k x y => by rw [sr_ne (by omega), nO_r (by omega), sr_ne (by omega)]
  have qt : ∀ a, a < o + 9 → pv_tg (pv_sr (pv_newO (pv_sr g2 o 0 (some (o + 1))) 100 5) o 4 (some (o + 9))) a = pv_tg g2 a := fun a x => by rw [sr_tg, nO_t (by omega), sr_tg]
  refine hP _ _ ⟨?_, by omega, fun a ha => ?_, fun a k ha => ?_, fun a ha => ?_⟩ ?_ sr_at (S.tr (fun a x y => qt a (by omega)) (fun k => q _ k (by omega) (by omega))) ?_
  · show (pv_sr g2 o 0 (some (o + 1))).1 + 1 = _
    rw [b3]
  · rw [qt a (by omega), a3 a (by omega), t1 a ha]
  · rw [q a k (by omega) (by omega), a4 a k (by omega), r1 a k (by omega)]
  · rw [nH_n (by omega), a5 a (by omega), h1 a (by omega)]
  · rw [sr_ne (by omega), nO_r (by omega), sr_at]
  · rw [sr_tg, ← b3, nO_ta]
theorem c0 {d : Nat} {P : PvP} {g : PvG} {h : PvH} {o : Nat} (hb : g.1 = o + 1) (ho : o < 600) (T : (pv_tg g o).1 = 0) (hP : ∀ g' h', AX g h g' h' o (o + 42) → pv_rf g' o 0 = some (o + 1) → pv_tg g' (o + 1) = (102, 10) → (∀ j, j < 10 → pv_rf g' (o + 1) j = some (o + 2 + 4 * j)) → (∀ j, j < 10 → gS g' (o + 2 + 4 * j)) → h' o = h o → P none g' h') : pv_run (d + 2) 0 [.ref o] g h P := by
  have loop : ∀ n i (g1 : PvG) (h1 : PvH), i + n = 10 → AX g h g1 h1 o (o + 2 + 4 * i) → pv_rf g1 o 0 = some (o + 1) → pv_tg g1 (o + 1) = (102, 10) → (∀ j, j < i → pv_rf g1 (o + 1) j = some (o + 2 + 4 * j)) → (∀ j, j < i → gS g1 (o + 2 + 4 * j)) → h1 o = h o → pv_E (d + 1) 0 P 15 [some (.ref o), some (.int (nI i))] [] (1 + 4 * i) (10 + 31 * i) g1 h1 := by
    intro n
    induction n with
    | zero =>
      intro i g1 h1 hi A r0 t1 rj sj w
      have hi : i = 10 := hi
      subst hi
      rw [z0_15]
      simp only [z0_16, z0_18, pv_catN, pv_cat1, pv_cat2, pv_cat3, pv_catL, Option.toList, List.nil_append, List.cons_append, List.append_nil, pv_rfS, pn_i, pn_r, pn_n, pn_o, true_and, and_true, Nat.le_refl, and_self, true_implies, false_implies, not_true_eq_false, not_false_eq_true, pv_b0, pv_b01, pv_bn0, pv_b1, Bool.false_eq_true, Bool.true_eq_false, Bool.not_false, Bool.not_true, pv_bT, pv_bF, eq_self, show ((10 : Int32) ≤ nI 10) = True from eq_true (by decide)]
      show pv_E (d + 1) 0 P 40 _ [] 41 320 _ _
      rw [z0_40]
      exact hP g1 h1 A r0 t1 rj sj w
    | succ n ih =>
      intro i g1 h1 hi A r0 t1 rj sj w
      obtain ⟨a1, a2, a3, a4, a5⟩ := A
      have hc : ((10 : Int32) ≤ nI i) = False := eq_false (by rw [show (10 : Int32) = nI 10 from rfl, nI_le' (by decide) (by omega)]; omega)
      have T1 : (pv_tg g1 o).1 = 0 := by rw [a3 o (Nat.le_refl o)]; exact T
      rw [z0_15]
      simp only [z0_16, z0_18, z0_21, z0_22, z0_25, pv_catN, pv_cat1, pv_cat2, pv_cat3, pv_catL, Option.toList, List.nil_append, List.cons_append, List.append_nil, pv_rfS, pn_i, pn_r, pn_n, pn_o, true_and, and_true, Nat.le_refl, and_self, true_implies, false_implies, not_true_eq_false, not_false_eq_true, pv_b0, pv_b01, pv_bn0, pv_b1, Bool.false_eq_true, Bool.true_eq_false, Bool.not_false, Bool.not_true, pv_bT, pv_bF, eq_self, hc, T1, r0]
      rw [n0_26]
      refine ⟨by omega, by omega, by omega, ?_⟩
      rw [y0_29, a1, z0_30 (by simp [pv_cat, Value.category]) (by omega)]
      have t2 : ∀ a, a < o + 2 + 4 * i → pv_tg (pv_newO g1 6 0) a = pv_tg g1 a := fun a ha => nO_t (by omega)
      have r2 : ∀ a k, a < o + 2 + 4 * i → pv_rf (pv_newO g1 6 0) a k = pv_rf g1 a k := fun a k ha => nO_r (by omega)
      have h2 : ∀ a, a < o + 2 + 4 * i → pv_newH g1 h1 a = h1 a := fun a ha => nH_n (by omega)
      refine c38S (by show g1.1 + 1 = _; rw [a1]) (by omega) (by rw [← a1, nO_ta]) (by rw [← a1, nH_a]) (fun g3 h3 A3 S3 w3 z3 => ?_)
      obtain ⟨c1, c2, c3, c4, c5⟩ := A3
      have t3 : ∀ a, a < o + 2 + 4 * i → pv_tg g3 a = pv_tg g1 a := fun a ha => by rw [c3 a (by omega), t2 a ha]
      have r3 : ∀ a k, a < o + 2 + 4 * i → pv_rf g3 a k = pv_rf g1 a k := fun a k ha => by rw [c4 a k ha, r2 a k ha]
      have h3' : ∀ a, a < o + 2 + 4 * i → h3 a = h1 a := fun a ha => by rw [c5 a ha, h2 a ha]
      have T3 : (pv_tg g3 (o + 1)) = (102, 10) := by rw [t3 _ (by omega)]; exact t1
      simp only [z0_33, z0_34, z0_37, pv_catN, pv_cat1, pv_cat2, pv_cat3, pv_catL, Option.toList, List.nil_append, List.cons_append, List.append_nil, pv_rfS, pn_i, pn_r, pn_n, pn_o, true_and, and_true, Nat.le_refl, and_self, true_implies, false_implies, not_true_eq_false, not_false_eq_true, pv_b0, pv_b01, pv_bn0, pv_b1, Bool.false_eq_true, Bool.true_eq_false, Bool.not_false, Bool.not_true, pv_bT, pv_bF, eq_self, T3, S3.1, vp_nI (show i < 10 by omega) (show 10 < 2 ^ 31 by decide), nI_clamp (show i < 2 ^ 31 by omega), nI_1]
      have eC : 1 + 4 * i + 1 + 3 = 1 + 4 * (i + 1) := by omega
      have eS : 10 + 31 * i + 7 + 24 = 10 + 31 * (i + 1) := by omega
      rw [eC, eS]
      refine ih (i + 1) _ h3 (by omega) ⟨?_, by omega, fun a ha => ?_, fun a k ha => ?_, fun a ha => ?_⟩ ?_ ?_ (fun j hj => ?_) (fun j hj => ?_) ?_
      · show g3.1 = _
        omega
      · rw [sr_tg, t3 a (by omega), a3 a ha]
      · rw [sr_ne (by omega), r3 a k (by omega), a4 a k ha]
      · rw [h3' a (by omega), a5 a ha]
      · rw [sr_ne (by omega), r3 o 0 (by omega)]; exact r0
      · rw [sr_tg]; exact T3
      · by_cases z : j = i
        · rw [z, sr_at]
        · rw [sr_ne (by omega), r3 _ _ (by omega)]; exact rj j (by omega)
      · by_cases z : j = i
        · rw [z]
          exact S3.tr (fun a _ _ => rfl) (fun k => by rw [sr_ne (by omega)])
        · refine (sj j (by omega)).tr (fun a _ _ => ?_) (fun k => ?_)
          · rw [sr_tg, t3 a (by omega)]
          · rw [sr_ne (by omega), r3 _ k (by omega)]
      · rw [h3' o (by omega)]; exact w
  rw [e0, z0_0, z0_1 (by simp [pv_cat]), z0_4, z0_5, n0_7]
  refine ⟨by omega, by decide, by decide, ?_⟩
  rw [z0_10]
  refine ⟨by rw [nO_t (by omega)]; exact T, ?_⟩
  rw [z0_13, z0_14 rfl]
  show pv_E (d + 1) 0 P 15 _ [] 1 10 _ _
  refine loop 10 0 _ _ rfl ⟨?_, by omega, fun a ha => ?_, fun a k ha => ?_, fun a ha => ?_⟩ ?_ ?_ (fun j hj => absurd hj (Nat.not_lt_zero j)) (fun j hj => absurd hj (Nat.not_lt_zero j)) ?_
  · show g.1 + 1 = _
    omega
  · rw [sr_tg, nO_t (by omega)]
  · rw [sr_ne (by omega), nO_r (by omega)]
  · rw [nH_n (by omega)]
  · rw [sr_at, hb]
  · rw [sr_tg, ← hb, nO_ta]
  · rw [nH_n (by omega)]
