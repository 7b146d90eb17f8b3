/-! ACTS of the class: copy, remember, takeBack -/
theorem cl0 : (0 : Int32).toNatClampNeg = 0 := rfl
theorem cl8 : (8 : Int32).toNatClampNeg = 8 := rfl
theorem cl9 : (9 : Int32).toNatClampNeg = 9 := rfl
theorem vpL {a : Int32} {k N : Nat} (h : a = nI k) (hk : k < N) (hN : N < 2 ^ 31) : vp_in a N = True := by rw [h]; exact vp_nI hk hN
theorem cpy_ne {h : PvH} {a0 a1 sp dp n a : Nat} (ha : a ≠ a1) : pv_cpy h a0 a1 sp dp n a = h a := funext fun _ => if_neg ha
theorem cpy_at {h : PvH} {a0 a1 n j : Nat} (hj : j < n) : pv_cpy h a0 a1 0 0 n a1 j = h a0 j := by
  unfold pv_cpy
  rw [if_pos rfl]
  unfold va_cpy
  rw [if_pos ⟨Nat.zero_le _, by omega⟩]
  simp
theorem m41 {d : Nat} {P : PvP} {g : PvG} {h : PvH} {o p1 p2 p3 : Nat} (G : gS g o) (t1 : pv_tg g p1 = (100, 8)) (t2 : pv_tg g p2 = (100, 8)) (t3 : pv_tg g p3 = (100, 8)) (n2 : p2 ≠ o + 1) (n3 : p3 ≠ o + 1) (n4 : p3 ≠ o + 2) (hP : ∀ h' : PvH, (∀ a, a ≠ o + 1 → a ≠ o + 2 → a ≠ o + 3 → h' a = h a) → (∀ j, j < 8 → h' (o + 1) j = h p1 j) → (∀ j, j < 8 → h' (o + 2) j = h p2 j) → (∀ j, j < 8 → h' (o + 3) j = h p3 j) → P none g h') : pv_run (d + 1) 41 [.ref o, .ref p1, .ref p2, .ref p3] g h P := by
  simp only [e41, z41_0, z41_1, z41_2, z41_3, z41_6, z41_7, z41_9, z41_12, z41_13, z41_14, z41_15, z41_18, z41_19, z41_21, z41_24, z41_25, z41_26, z41_27, z41_30, z41_31, z41_33, z41_36, pv_catN, pv_cat1, pv_cat2, pv_cat3, pv_catL, Option.toList, List.nil_append, List.cons_append, List.append_nil, pv_rfS, pn_i, pn_r, pn_n, pn_o, true_and, and_true, Nat.le_refl, and_self, true_implies, false_implies, not_true_eq_false, not_false_eq_true, pv_b0, pv_b01, pv_bn0, pv_b1, Bool.false_eq_true, Bool.true_eq_false, Bool.not_false, Bool.not_true, pv_bT, pv_bF, eq_self, G.1, G.2.1, G.2.2.1, G.2.2.2.1, G.2.2.2.2.1, G.2.2.2.2.2.1, G.2.2.2.2.2.2, t1, t2, t3, show (¬ (0 : Int32) < 0) = True from eq_true (by decide), show (¬ (8 : Int32) < 0) = True from eq_true (by decide), cl0, cl8, Nat.zero_add]
  refine hP _ (fun a h1 h2 h3 => ?_) (fun j hj => ?_) (fun j hj => ?_) (fun j hj => ?_)
  · rw [cpy_ne h3, cpy_ne h2, cpy_ne h1]
  · rw [cpy_ne (by omega), cpy_ne (by omega), cpy_at hj]
  · rw [cpy_ne (by omega), cpy_at hj, cpy_ne n2]
  · rw [cpy_at hj, cpy_ne n4, cpy_ne n3]
theorem m40 {d : Nat} {P : PvP} {g : PvG} {h : PvH} {o f R : Nat} {s : SS} (G : gS g o) (Gf : gS g f) (S : cS h f R s) (hR : R ≤ 8) (sep : f + 3 < o ∨ o + 3 < f) (hP : ∀ h' : PvH, (∀ a, (a < o ∨ o + 3 < a) → h' a = h a) → cS h' o R s → P none g h') : pv_run (d + 2) 40 [.ref o, .ref f] g h P := by
  simp only [e40, z40_0, z40_1, z40_2, z40_5, z40_6, z40_9, z40_10, pv_catN, pv_cat1, pv_cat2, pv_cat3, pv_catL, Option.toList, List.nil_append, List.cons_append, List.append_nil, pv_rfS, pn_i, pn_r, pn_n, pn_o, true_and, and_true, Nat.le_refl, and_self, true_implies, false_implies, not_true_eq_false, not_false_eq_true, pv_b0, pv_b01, pv_bn0, pv_b1, Bool.false_eq_true, Bool.true_eq_false, Bool.not_false, Bool.not_true, pv_bT, pv_bF, eq_self, Gf.1, Gf.2.1, Gf.2.2.1, Gf.2.2.2.1]
  rw [z40_13 (by simp [pv_cat]) (by decide)]
  refine ⟨G.1, m41 G Gf.2.2.2.2.1 Gf.2.2.2.2.2.1 Gf.2.2.2.2.2.2 (by omega) (by omega) (by omega) fun h1 f1 c1 c2 c3 => ?_⟩
  obtain ⟨s1, s2, s3, s4, s5, s6, s7⟩ := S
  have hof : f ≠ o := by omega
  simp only [z40_0, z40_1, z40_2, z40_5, z40_6, z40_9, z40_10, z40_13, z40_16, z40_17, z40_18, z40_21, z40_24, z40_25, z40_26, z40_29, z40_32, z40_33, z40_34, z40_37, z40_40, z40_41, z40_42, z40_45, z40_48, pv_catN, pv_cat1, pv_cat2, pv_cat3, pv_catL, Option.toList, List.nil_append, List.cons_append, List.append_nil, pv_rfS, pn_i, pn_r, pn_n, pn_o, true_and, and_true, Nat.le_refl, and_self, true_implies, false_implies, not_true_eq_false, not_false_eq_true, pv_b0, pv_b01, pv_bn0, pv_b1, Bool.false_eq_true, Bool.true_eq_false, Bool.not_false, Bool.not_true, pv_bT, pv_bF, eq_self, G.1, Gf.1, st_o hof, f1 f (by omega) (by omega) (by omega), s4, s5, s6, s7]
  refine hP _ (fun a ha => ?_) ⟨fun r hr => ?_, fun r hr => ?_, fun r hr => ?_, ?_, ?_, ?_, ?_⟩
  · rw [st_o (by omega), st_o (by omega), st_o (by omega), st_o (by omega), f1 a (by omega) (by omega) (by omega)]
  · rw [st_o (by omega), st_o (by omega), st_o (by omega), st_o (by omega), c1 r (by omega)]; exact s1 r hr
  · rw [st_o (by omega), st_o (by omega), st_o (by omega), st_o (by omega), c2 r (by omega)]; exact s2 r hr
  · rw [st_o (by omega), st_o (by omega), st_o (by omega), st_o (by omega), c3 r (by omega)]; exact s3 r hr
  · rw [st_k (by omega), st_k (by omega), st_k (by omega), st_at]
  · rw [st_k (by omega), st_k (by omega), st_at]
  · rw [st_k (by omega), st_at]
  · rw [st_at]
/-- the row when the first one is forgotten -/
def rotQ (q : Nat → Nat) : Nat → Nat := fun i => if i < 9 then q (i + 1) else q 0
theorem sr_tg {g : PvG} {o k : Nat} {v : Option Nat} (a : Nat) : pv_tg (pv_sr g o k v) a = pv_tg g a := rfl
theorem gC.rot {g g' : PvG} {rt tt : Nat} {q q' : Nat → Nat} (G : gC g rt tt q) (ht : ∀ o, pv_tg g' o = pv_tg g o) (hr : ∀ o k, o ≠ 26 → pv_rf g' o k = pv_rf g o k) (h1 : ∀ i, i < 10 → pv_rf g' 26 i = some (q' i)) (h2 : ∀ i, i < 10 → ∃ j, j < 10 ∧ q' i = q j) (h3 : ∀ i j, i < 10 → j < 10 → q' i = q' j → i = j) : gC g' rt tt q' := by
  have hS : ∀ o, o < 26 ∨ 26 < o → gS g o → gS g' o := fun o ho G => by
    unfold gS at G ⊢
    simp only [ht, hr o _ (by omega)]
    exact G
  have hT : ∀ o, o < 19 → gT g o → gT g' o := fun o ho G => by
    unfold gT at G ⊢
    simp only [ht, hr o _ (by omega)]
    exact G
  exact ⟨(by rw [ht]; exact G.o0), (by rw [ht]; exact G.o2), (by rw [ht]; exact G.o25), (by rw [ht]; exact G.o67), (by rw [ht]; exact G.o73), (by rw [ht]; exact G.o79), (by rw [ht]; exact G.o84), (by rw [ht]; exact G.o99), (by rw [ht]; exact G.o101), (by rw [hr _ _ (by omega)]; exact G.r0_0), (by rw [hr _ _ (by omega)]; exact G.r0_2), (by rw [hr _ _ (by omega)]; exact G.r0_3), (by rw [hr _ _ (by omega)]; exact G.r0_4), (by rw [hr _ _ (by omega)]; exact G.r0_5), (by rw [hr _ _ (by omega)]; exact G.r0_6), (by rw [hr _ _ (by omega)]; exact G.r0_7), (by rw [hr _ _ (by omega)]; exact G.r0_8), (by rw [hr _ _ (by omega)]; exact G.r0_9), (by rw [hr _ _ (by omega)]; exact G.r0_10), (by rw [hr _ _ (by omega)]; exact G.r0_11), (by rw [hr _ _ (by omega)]; exact G.r0_12), (by rw [hr _ _ (by omega)]; exact G.r2_0), (by rw [hr _ _ (by omega)]; exact G.r2_4), (by rw [hr _ _ (by omega)]; exact G.r25_0), (by rw [hr _ _ (by omega)]; exact G.r67_1), (by rw [hr _ _ (by omega)]; exact G.r67_2), (by rw [hr _ _ (by omega)]; exact G.r73_1), (by rw [hr _ _ (by omega)]; exact G.r73_2), (by rw [hr _ _ (by omega)]; exact G.r79_1), (by rw [hr _ _ (by omega)]; exact G.r79_2), (by rw [hr _ _ (by omega)]; exact G.r79_3), (by rw [hr _ _ (by omega)]; exact G.r79_4), (by rw [hr _ _ (by omega)]; exact G.r84_2), (by rw [hr _ _ (by omega)]; exact G.r84_7), (by rw [hr _ _ (by omega)]; exact G.r84_8), (by rw [hr _ _ (by omega)]; exact G.r84_9), (by rw [hr _ _ (by omega)]; exact G.r84_10), (by rw [hr _ _ (by omega)]; exact G.r84_11), (by rw [hr _ _ (by omega)]; exact G.r84_12), (by rw [hr _ _ (by omega)]; exact G.r88_0), (by rw [hr _ _ (by omega)]; exact G.r88_1), (by rw [hr _ _ (by omega)]; exact G.r88_2), (by rw [hr _ _ (by omega)]; exact G.r92_0), (by rw [hr _ _ (by omega)]; exact G.r92_1), (by rw [hr _ _ (by omega)]; exact G.r92_2), (by rw [hr _ _ (by omega)]; exact G.r92_3), (by rw [hr _ _ (by omega)]; exact G.r99_4), (by rw [ht]; exact G.t1), (by rw [ht]; exact G.t11), (by rw [ht]; exact G.t24), (by rw [ht]; exact G.t26), (by rw [ht]; exact G.t72), (by rw [ht]; exact G.t78), (by rw [ht]; exact G.t80), (by rw [ht]; exact G.t81), (by rw [ht]; exact G.t82), (by rw [ht]; exact G.t83), (by rw [ht]; exact G.t85), (by rw [ht]; exact G.t86), (by rw [ht]; exact G.t87), (by rw [ht]; exact G.t88), (by rw [ht]; exact G.t89), (by rw [ht]; exact G.t90), (by rw [ht]; exact G.t91), (by rw [ht]; exact G.t92), (by rw [ht]; exact G.t93), (by rw [ht]; exact G.t94), (by rw [ht]; exact G.t95), (by rw [ht]; exact G.t96), (by rw [ht]; exact G.t97), (by rw [ht]; exact G.t98), (by rw [ht]; exact G.t100), hT 3 (by omega) G.T3, hT 12 (by omega) G.T12, hS 20 (by omega) G.S20, hS 68 (by omega) G.S68, hS 74 (by omega) G.S74, fun j hj => hS _ (by omega) (G.Sq j hj), h1, fun i hi => by obtain ⟨j, hj, e⟩ := h2 i hi; obtain ⟨k, hk, e2⟩ := G.qj j hj; exact ⟨k, hk, e.trans e2⟩, h3, G.rt⟩
theorem m2 {d : Nat} {P : PvP} {g : PvG} {h : PvH} {rt tt : Nat} {q : Nat → Nat} (G : gC g rt tt q) (hP : ∀ g', gC g' rt tt (rotQ q) → FG g g' → P none g' (pv_st h 25 1 9)) : pv_run (d + 1) 2 [.ref 25] g h P := by
  have loop : ∀ n r (g1 : PvG), r + n = 10 → 1 ≤ r → (∀ o, pv_tg g1 o = pv_tg g o) → (∀ o k, o ≠ 26 → pv_rf g1 o k = pv_rf g o k) → (∀ i, i < 10 → pv_rf g1 26 i = some (if i + 1 < r then q (i + 1) else q i)) → pv_E d 2 P 9 [some (.ref 25), some (.ref (q 0)), some (.int (nI r))] [] 0 0 g1 h := by
    intro n
    induction n with
    | zero =>
      intro r g1 hr h1 e1 e2 e3
      have hr : r = 10 := hr
      subst hr
      have t0 : (pv_tg g1 (q 0)).1 = 6 := by
        rw [e1]
        obtain ⟨j, hj, e⟩ := G.qj 0 (by omega)
        rw [e]
        exact (G.Sq j hj).1
      rw [z2_9]
      simp only [z2_0, z2_1, z2_4, z2_5, z2_6, z2_7, z2_8, z2_10, z2_12, z2_15, z2_16, z2_19, z2_20, z2_21, z2_22, z2_23, z2_26, z2_27, z2_28, z2_29, z2_32, z2_35, z2_36, z2_39, z2_41, z2_42, z2_43, z2_44, z2_46, z2_49, pv_catN, pv_cat1, pv_cat2, pv_cat3, pv_catL, Option.toList, List.nil_append, List.cons_append, List.append_nil, pv_rfS, pn_i, pn_r, pn_n, pn_o, true_and, and_true, Nat.le_refl, and_self, true_implies, false_implies, not_true_eq_false, not_false_eq_true, pv_b0, pv_b01, pv_bn0, pv_b1, Bool.false_eq_true, Bool.true_eq_false, Bool.not_false, Bool.not_true, pv_bT, pv_bF, eq_self, show ((10 : Int32) ≤ nI 10) = True from eq_true (by decide), e1, e2 25 0 (by omega), G.o25, G.r25_0, G.t26, t0, vpL (show (9 : Int32) = nI 9 from rfl) (show 9 < 10 by decide) (by decide), cl9, sr_tg]
      have t0' : (pv_tg g (q 0)).1 = 6 := by rw [← e1]; exact t0
      simp only [t0', true_and]
      have G' : gC (pv_sr g1 26 9 (some (q 0))) rt tt (rotQ q) := by
        refine G.rot (fun o => (sr_tg o).trans (e1 o)) (fun o k ho => (pv_sr_ne g1 9 _ ho k).trans (e2 o k ho)) (fun i hi => ?_) (fun i hi => ?_) (fun i j hi hj he => ?_)
        · rw [pv_sr_at]
          unfold rotQ
          by_cases c : i = 9
          · subst c; simp
          · rw [if_neg c, e3 i hi, if_pos (by omega), if_pos (by omega)]
        · unfold rotQ
          split
          · exact ⟨i + 1, by omega, rfl⟩
          · exact ⟨0, by omega, rfl⟩
        · unfold rotQ at he
          split at he <;> split at he
          · have := G.qi _ _ (by omega) (by omega) he; omega
          · have := G.qi _ _ (by omega) (by omega) he; omega
          · have := G.qi _ _ (by omega) (by omega) he; omega
          · omega
      exact hP _ G' ⟨fun o => (sr_tg o).trans (e1 o), fun o k ho => (pv_sr_ne g1 9 _ (by omega) k).trans (e2 o k (by omega))⟩
    | succ n ih =>
      intro r g1 hr h1 e1 e2 e3
      have er : nI r - 1 = nI (r - 1) := by
        have := pk_sub (a := r) (b := 1) h1
        exact this
      have t6 : (pv_tg g (q r)).1 = 6 := by
        obtain ⟨j, hj, e⟩ := G.qj r (by omega)
        rw [e]
        exact (G.Sq j hj).1
      have e3r : pv_rf g1 26 r = some (q r) := by rw [e3 r (by omega), if_neg (by omega)]
      rw [z2_9]
      simp only [z2_0, z2_1, z2_4, z2_5, z2_6, z2_7, z2_8, z2_10, z2_12, z2_15, z2_16, z2_19, z2_20, z2_21, z2_22, z2_23, z2_26, z2_27, z2_28, z2_29, z2_32, z2_35, z2_36, z2_39, z2_41, z2_42, z2_43, z2_44, z2_46, z2_49, pv_catN, pv_cat1, pv_cat2, pv_cat3, pv_catL, Option.toList, List.nil_append, List.cons_append, List.append_nil, pv_rfS, pn_i, pn_r, pn_n, pn_o, true_and, and_true, Nat.le_refl, and_self, true_implies, false_implies, not_true_eq_false, not_false_eq_true, pv_b0, pv_b01, pv_bn0, pv_b1, Bool.false_eq_true, Bool.true_eq_false, Bool.not_false, Bool.not_true, pv_bT, pv_bF, eq_self, show ((10 : Int32) ≤ nI r) = False from eq_false (by rw [show (10 : Int32) = nI 10 from rfl, nI_le' (by decide) (by omega)]; omega), e1, e2 25 0 (by omega), G.o25, G.r25_0, G.t26, er, vp_nI (show r < 10 by omega) (show 10 < 2 ^ 31 by decide), vp_nI (show r - 1 < 10 by omega) (show 10 < 2 ^ 31 by decide), nI_clamp (show r < 2 ^ 31 by omega), nI_clamp (show r - 1 < 2 ^ 31 by omega), e3r, t6, nI_1, true_or]
      refine ih (r + 1) _ (by omega) (by omega) (fun o => (sr_tg o).trans (e1 o)) (fun o k ho => (pv_sr_ne g1 _ _ ho k).trans (e2 o k ho)) (fun i hi => ?_)
      rw [pv_sr_at]
      by_cases c : i = r - 1
      · subst c
        rw [if_pos rfl, if_pos (by omega), show r - 1 + 1 = r by omega]
      · rw [if_neg c, e3 i hi]
        by_cases c2 : i + 1 < r
        · rw [if_pos c2, if_pos (by omega)]
        · rw [if_neg c2, if_neg (by omega)]
  simp only [e2, z2_0, z2_1, z2_4, z2_5, z2_6, z2_7, z2_8, pv_catN, pv_cat1, pv_cat2, pv_cat3, pv_catL, Option.toList, List.nil_append, List.cons_append, List.append_nil, pv_rfS, pn_i, pn_r, pn_n, pn_o, true_and, and_true, Nat.le_refl, and_self, true_implies, false_implies, not_true_eq_false, not_false_eq_true, pv_b0, pv_b01, pv_bn0, pv_b1, Bool.false_eq_true, Bool.true_eq_false, Bool.not_false, Bool.not_true, pv_bT, pv_bF, eq_self, G.o25, G.r25_0, G.t26, vpL (show (0 : Int32) = nI 0 from rfl) (show 0 < 10 by decide) (by decide), cl0, G.q 0 (by omega), true_or]
  exact loop 9 1 g (by omega) (by omega) (fun _ => rfl) (fun _ _ _ => rfl) (fun i hi => by rw [if_neg (by omega)]; exact G.q i hi)
/-- the acts with one more -/
def pushL (l : List SS) (s : SS) : List SS := (if l.length < 10 then l else l.drop 1) ++ [s]
theorem pushL_len {l : List SS} {s : SS} (h : l.length ≤ 10) : (pushL l s).length ≤ 10 := by
  unfold pushL
  split
  · simp; omega
  · simp; omega
def pushX (x : SX) : SX := (xT x, xS x, xI x, pushL (xA x) (xS x), xLo x, xHi x, xN x, xX x)
/-- the class's relation with other acts, and the row elsewhere -/
theorem cC.acts {h h' : PvH} {g : PvG} {rt tt : Nat} {q q' : Nat → Nat} {x : SX} (G : gC g rt tt q) (C : cC h rt q x) {l : List SS} (hf : ∀ o, (o < 25 ∨ (25 < o ∧ o < 27) ∨ 66 < o) → h' o = h o) (hn : h' 25 1 = nI l.length) (hA : ∀ i s, l[i]? = some s → cS h' (q' i) (tR (xT x)) s) : cC h' rt q' (xT x, xS x, xI x, l, xLo x, xHi x, xN x, xX x) := by
  have G4 := G.rt
  obtain ⟨T, S, X, n, A, lo, hi, N, Y, z, zl⟩ := C
  refine ⟨T.fr (fun a h1 h2 => hf a (by omega)), S.fr (hf _ (by omega)) (hf _ (by omega)) (hf _ (by omega)) (hf _ (by omega)), ?_, hn, hA, lo.fr ?_ (hf _ (by omega)) (hf _ (by omega)) (hf _ (by omega)) (hf _ (by omega)) (hf _ (by omega)), hi.fr ?_ (hf _ (by omega)) (hf _ (by omega)) (hf _ (by omega)) (hf _ (by omega)) (hf _ (by omega)), ?_, ?_, ?_, ?_⟩
  · rw [hf _ (by omega)]; exact X
  · rw [hf _ (by omega)]
  · rw [hf _ (by omega)]
  · rw [hf _ (by omega)]; exact N
  · rw [hf _ (by omega)]; exact Y
  · rw [hf _ (by omega)]; exact z
  · intro e f he hf'
    rw [hf _ (by omega)]; exact zl e f he hf'
theorem gC.qS {g : PvG} {rt tt : Nat} {q : Nat → Nat} (G : gC g rt tt q) {i : Nat} (hi : i < 10) : gS g (q i) := by
  obtain ⟨j, hj, e⟩ := G.qj i hi
  rw [e]
  exact G.Sq j hj
theorem gC.qA {g : PvG} {rt tt : Nat} {q : Nat → Nat} (G : gC g rt tt q) {i j : Nat} (hi : i < 10) (hj : j < 10) (h : i ≠ j) : q i + 3 < q j ∨ q j + 3 < q i := by
  obtain ⟨a, ha, ea⟩ := G.qj i hi
  obtain ⟨b, hb, eb⟩ := G.qj j hj
  have : q i ≠ q j := fun e => h (G.qi i j hi hj e)
  omega
set_option maxHeartbeats 1000000 in
theorem m1 {d : Nat} {P : PvP} {g : PvG} {h : PvH} {rt tt : Nat} {q : Nat → Nat} {x : SX} (G : gC g rt tt q) (C : cC h rt q x) (O : okX x) (hP : ∀ g' h' q', gC g' rt tt q' → FG g g' → (∀ a, (a < 25 ∨ (25 < a ∧ a < 27) ∨ 66 < a) → h' a = h a) → cC h' rt q' (pushX x) → P none g' h') : pv_run (d + 3) 1 [.ref 25, .ref 20] g h P := by
  have hR := O.R
  have hl := O.2.2.2.1
  -- from the place where there is room
  have tail : ∀ (g1 : PvG) (h1 : PvH) (q1 : Nat → Nat) (l : List SS), gC g1 rt tt q1 → FG g g1 → (∀ a, a ≠ 25 → h1 a = h a) → h1 25 1 = nI l.length → l.length < 10 → (∀ i s, l[i]? = some s → cS h1 (q1 i) (tR (xT x)) s) → (if (xA x).length < 10 then xA x else (xA x).drop 1) = l → pv_E (d + 2) 1 P 13 [some (.ref 25), some (.ref 20)] [] 0 0 g1 h1 := by
    intro g1 h1 q1 l G1 F1 hf hn hl10 hA hl2
    have S1 : cS h1 20 (tR (xT x)) (xS x) := C.S.fr (hf _ (by omega)) (hf _ (by omega)) (hf _ (by omega)) (hf _ (by omega))
    have q4 := G1.q4 hl10
    simp only [z1_0, z1_1, z1_4, z1_6, z1_9, z1_10, z1_13, z1_14, z1_17, z1_18, z1_21, z1_22, pv_catN, pv_cat1, pv_cat2, pv_cat3, pv_catL, Option.toList, List.nil_append, List.cons_append, List.append_nil, pv_rfS, pn_i, pn_r, pn_n, pn_o, true_and, and_true, Nat.le_refl, and_self, true_implies, false_implies, not_true_eq_false, not_false_eq_true, pv_b0, pv_b01, pv_bn0, pv_b1, Bool.false_eq_true, Bool.true_eq_false, Bool.not_false, Bool.not_true, pv_bT, pv_bF, eq_self, G1.o25, G1.r25_0, G1.t26, hn, vp_nI hl10 (show 10 < 2 ^ 31 by decide), nI_clamp (show l.length < 2 ^ 31 by omega), G1.q _ hl10, true_or]
    rw [z1_23 (by simp [pv_cat]) (by decide)]
    refine ⟨(G1.qS hl10).1, m40 (G1.qS hl10) G1.S20 S1 hR (by omega) fun h2 f2 S2 => ?_⟩
    have e25 : h2 25 1 = nI l.length := by rw [f2 25 (by omega)]; exact hn
    simp only [z1_0, z1_1, z1_4, z1_6, z1_9, z1_10, z1_13, z1_14, z1_17, z1_18, z1_21, z1_22, z1_23, z1_26, z1_27, y1_27, z1_28, z1_31, z1_32, z1_33, z1_36, pv_catN, pv_cat1, pv_cat2, pv_cat3, pv_catL, Option.toList, List.nil_append, List.cons_append, List.append_nil, pv_rfS, pn_i, pn_r, pn_n, pn_o, true_and, and_true, Nat.le_refl, and_self, true_implies, false_implies, not_true_eq_false, not_false_eq_true, pv_b0, pv_b01, pv_bn0, pv_b1, Bool.false_eq_true, Bool.true_eq_false, Bool.not_false, Bool.not_true, pv_bT, pv_bF, eq_self, G1.o25, e25, nI_1]
    have hfin : ∀ a, (a < 25 ∨ (25 < a ∧ a < 27) ∨ 66 < a) → pv_st h2 25 1 (nI (l.length + 1)) a = h a := fun a ha => by
      rw [st_o (by omega), f2 a (by omega), hf a (by omega)]
    refine hP g1 _ q1 G1 F1 hfin (cC.acts (h := h) G C hfin ?_ ?_)
    · rw [st_at]
      unfold pushL
      rw [hl2]
      simp
    · intro i s hs
      have hs : (pushL (xA x) (xS x))[i]? = some s := hs
      unfold pushL at hs
      rw [hl2] at hs
      by_cases c : i < l.length
      · rw [List.getElem?_append_left c] at hs
        have q5 := G1.q4 (show i < 10 by omega)
        have qa := G1.qA (show i < 10 by omega) hl10 (show i ≠ l.length by omega)
        exact (hA i s hs).fr (by rw [st_o (by omega), f2 _ (by omega)]) (by rw [st_o (by omega), f2 _ (by omega)]) (by rw [st_o (by omega), f2 _ (by omega)]) (by rw [st_o (by omega), f2 _ (by omega)])
      · rw [List.getElem?_append_right (by omega)] at hs
        have hi : i - l.length < 1 := (List.getElem?_eq_some_iff.mp hs).1
        obtain rfl : i = l.length := by omega
        rw [Nat.sub_self] at hs
        cases hs
        exact S2.fr (st_o (by omega)) (st_o (by omega)) (st_o (by omega)) (st_o (by omega))
  rw [e1, z1_0, z1_1, z1_4, z1_6]
  refine ⟨G.o25, fun c => ?_, fun c => ?_⟩
  · have c : (xA x).length < 10 := by
      rw [C.n, show (10 : Int32) = nI 10 from rfl, nI_lt' (by omega) (by decide)] at c
      exact c
    exact tail g h q (xA x) G FG.rf (fun _ _ => rfl) C.n c C.A (if_pos c)
  · have c : ¬ (xA x).length < 10 := by
      rw [C.n, show (10 : Int32) = nI 10 from rfl, nI_lt' (by omega) (by decide)] at c
      exact c
    rw [z1_9, z1_10 (by simp [pv_cat]) (by decide)]
    refine ⟨G.o25, m2 G fun g1 G1 F1 => ?_⟩
    have hn9 : ((xA x).drop 1).length = 9 := by simp; omega
    refine tail g1 _ (rotQ q) ((xA x).drop 1) G1 F1 (fun a ha => st_o ha) (by rw [st_at, hn9]; rfl) (by omega) (fun i s hs => ?_) (if_neg c)
    have hi : i < 9 := by have := (List.getElem?_eq_some_iff.mp hs).1; omega
    rw [List.getElem?_drop] at hs
    have q5 := G.q4 (show i + 1 < 10 by omega)
    have e : rotQ q i = q (i + 1) := if_pos hi
    rw [e]
    rw [Nat.add_comm] at hs
    exact (C.A (i + 1) s hs).fr (st_o (by omega)) (st_o (by omega)) (st_o (by omega)) (st_o (by omega))
