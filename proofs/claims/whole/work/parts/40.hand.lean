/-! at hand -/
theorem gC.fr {g g' : PvG} {rt tt : Nat} {q : Nat → Nat} (G : gC g rt tt q) (ht : ∀ o, pv_tg g' o = pv_tg g o) (hr : ∀ o k, (o = 99 → k = 4) → (o = 84 → k = 2 ∨ 7 ≤ k) → pv_rf g' o k = pv_rf g o k) : gC g' rt tt q := by
  have hS : ∀ o, o < 84 → gS g o → gS g' o := fun o ho G => by
    have hr' : ∀ k, pv_rf g' o k = pv_rf g o k := fun k => hr o k (by omega) (by omega)
    unfold gS at G ⊢
    simp only [ht, hr']
    exact G
  have hT : ∀ o, o < 84 → gT g o → gT g' o := fun o ho G => by
    have hr' : ∀ k, pv_rf g' o k = pv_rf g o k := fun k => hr o k (by omega) (by omega)
    unfold gT at G ⊢
    simp only [ht, hr']
    exact G
  exact ⟨(by rw [ht]; exact G.o0), (by rw [ht]; exact G.o2), (by rw [ht]; exact G.o25), (by rw [ht]; exact G.o67), (by rw [ht]; exact G.o73), (by rw [ht]; exact G.o79), (by rw [ht]; exact G.o84), (by rw [ht]; exact G.o99), (by rw [ht]; exact G.o101), (by rw [hr _ _ (by omega) (by omega)]; exact G.r0_0), (by rw [hr _ _ (by omega) (by omega)]; exact G.r0_2), (by rw [hr _ _ (by omega) (by omega)]; exact G.r0_3), (by rw [hr _ _ (by omega) (by omega)]; exact G.r0_4), (by rw [hr _ _ (by omega) (by omega)]; exact G.r0_5), (by rw [hr _ _ (by omega) (by omega)]; exact G.r0_6), (by rw [hr _ _ (by omega) (by omega)]; exact G.r0_7), (by rw [hr _ _ (by omega) (by omega)]; exact G.r0_8), (by rw [hr _ _ (by omega) (by omega)]; exact G.r0_9), (by rw [hr _ _ (by omega) (by omega)]; exact G.r0_10), (by rw [hr _ _ (by omega) (by omega)]; exact G.r0_11), (by rw [hr _ _ (by omega) (by omega)]; exact G.r0_12), (by rw [hr _ _ (by omega) (by omega)]; exact G.r2_0), (by rw [hr _ _ (by omega) (by omega)]; exact G.r2_4), (by rw [hr _ _ (by omega) (by omega)]; exact G.r25_0), (by rw [hr _ _ (by omega) (by omega)]; exact G.r67_1), (by rw [hr _ _ (by omega) (by omega)]; exact G.r67_2), (by rw [hr _ _ (by omega) (by omega)]; exact G.r73_1), (by rw [hr _ _ (by omega) (by omega)]; exact G.r73_2), (by rw [hr _ _ (by omega) (by omega)]; exact G.r79_1), (by rw [hr _ _ (by omega) (by omega)]; exact G.r79_2), (by rw [hr _ _ (by omega) (by omega)]; exact G.r79_3), (by rw [hr _ _ (by omega) (by omega)]; exact G.r79_4), (by rw [hr _ _ (by omega) (by omega)]; exact G.r84_2), (by rw [hr _ _ (by omega) (by omega)]; exact G.r84_7), (by rw [hr _ _ (by omega) (by omega)]; exact G.r84_8), (by rw [hr _ _ (by omega) (by omega)]; exact G.r84_9), (by rw [hr _ _ (by omega) (by omega)]; exact G.r84_10), (by rw [hr _ _ (by omega) (by omega)]; exact G.r84_11), (by rw [hr _ _ (by omega) (by omega)]; exact G.r84_12), (by rw [hr _ _ (by omega) (by omega)]; exact G.r88_0), (by rw [hr _ _ (by omega) (by omega)]; exact G.r88_1), (by rw [hr _ _ (by omega) (by omega)]; exact G.r88_2), (by rw [hr _ _ (by omega) (by omega)]; exact G.r92_0), (by rw [hr _ _ (by omega) (by omega)]; exact G.r92_1), (by rw [hr _ _ (by omega) (by omega)]; exact G.r92_2), (by rw [hr _ _ (by omega) (by omega)]; exact G.r92_3), (by rw [hr _ _ (by omega) (by omega)]; exact G.r99_4), (by rw [ht]; exact G.t1), (by rw [ht]; exact G.t11), (by rw [ht]; exact G.t24), (by rw [ht]; exact G.t26), (by rw [ht]; exact G.t72), (by rw [ht]; exact G.t78), (by rw [ht]; exact G.t80), (by rw [ht]; exact G.t81), (by rw [ht]; exact G.t82), (by rw [ht]; exact G.t83), (by rw [ht]; exact G.t85), (by rw [ht]; exact G.t86), (by rw [ht]; exact G.t87), (by rw [ht]; exact G.t88), (by rw [ht]; exact G.t89), (by rw [ht]; exact G.t90), (by rw [ht]; exact G.t91), (by rw [ht]; exact G.t92), (by rw [ht]; exact G.t93), (by rw [ht]; exact G.t94), (by rw [ht]; exact G.t95), (by rw [ht]; exact G.t96), (by rw [ht]; exact G.t97), (by rw [ht]; exact G.t98), (by rw [ht]; exact G.t100), hT 3 (by omega) G.T3, hT 12 (by omega) G.T12, hS 20 (by omega) G.S20, hS 68 (by omega) G.S68, hS 74 (by omega) G.S74, fun j hj => hS _ (by omega) (G.Sq j hj), (fun i hi => by rw [hr _ _ (by omega) (by omega)]; exact G.q i hi), G.qj, G.qi, G.rt⟩
theorem sr_at {g : PvG} {o k : Nat} {v : Option Nat} : pv_rf (pv_sr g o k v) o k = v := by simp [pv_sr, pv_rf]
theorem sr_ne {g : PvG} {o k a b : Nat} {v : Option Nat} (h : ¬ (a = o ∧ b = k)) : pv_rf (pv_sr g o k v) a b = pv_rf g a b := by simp [pv_sr, pv_rf, h]
theorem cC.fr2 {h h' : PvH} {g : PvG} {rt tt : Nat} {q : Nat → Nat} {x : SX} (G : gC g rt tt q) (C : cC h rt q x) (O : okX x) (hf : ∀ o, o < 79 → h' o = h o) (z' : ∀ f, f < 5 → h' 100 f = 0) (zl' : ∀ e f, e < 3 → f < 5 → h' (89 + e) f = 0) : cC h' rt q x := by
  have G4 := G.rt
  obtain ⟨T, S, I, m, A, lo, hi, N, Y, z, zl⟩ := C
  refine ⟨T.fr (fun a h1 h2 => hf a (by omega)), S.fr (hf _ (by omega)) (hf _ (by omega)) (hf _ (by omega)) (hf _ (by omega)), ?_, ?_, ?_, lo.fr (by rw [hf _ (by omega)]) (hf _ (by omega)) (hf _ (by omega)) (hf _ (by omega)) (hf _ (by omega)) (hf _ (by omega)), hi.fr (by rw [hf _ (by omega)]) (hf _ (by omega)) (hf _ (by omega)) (hf _ (by omega)) (hf _ (by omega)) (hf _ (by omega)), ?_, ?_, z', zl'⟩
  · rw [hf _ (by omega)]; exact I
  · rw [hf _ (by omega)]; exact m
  · intro i s hs
    have hi10 : i < 10 := Nat.lt_of_lt_of_le (List.getElem?_eq_some_iff.mp hs).1 O.2.2.2.1
    have q4 := G.q4 hi10
    exact (A i s hs).fr (hf _ (by omega)) (hf _ (by omega)) (hf _ (by omega)) (hf _ (by omega))
  · rw [hf _ (by omega)]; exact N
  · rw [hf _ (by omega)]; exact Y
def handN (x : SX) : Nat := plc (gW (xT x) (xS x)) (gA (xT x) (xS x)) (tB (xT x)) (sH (xS x)) (tF (xT x)) (rp (xS x) (tR (xT x))) (fun _ => 0) 0 1000000
def handA (x : SX) : Int32 := if nTh x ≤ 6 then nI (handN x) else -3
theorem oC76 {x : SX} (O : okX x) : OpC 14 76 [] x (.int (handA x)) x := by
  intro d P g h ⟨rt, tt, q, G, C⟩ hP
  have hR := O.R
  have hT := nTh_le O
  have hn := rp_len (xS x) (tR (xT x))
  have G4 := G.rt
  unfold handA at hP
  have e6 : (nI (nTh x) ≤ 6) = (nTh x ≤ 6) := nI_le' (b := 6) (by omega) (by decide)
  simp only [e76, z76_0, z76_1, z76_4, z76_6, z76_9, z76_11, z76_12, z76_13, z76_16, z76_17, z76_20, z76_21, pv_catN, pv_cat1, pv_cat2, pv_cat3, pv_catL, Option.toList, List.nil_append, List.cons_append, List.append_nil, pv_rfS, pn_i, pn_r, pn_n, pn_o, true_and, and_true, Nat.le_refl, and_self, true_implies, false_implies, not_true_eq_false, not_false_eq_true, pv_b0, pv_b01, pv_bn0, pv_b1, Bool.false_eq_true, Bool.true_eq_false, Bool.not_false, Bool.not_true, pv_bT, pv_bF, eq_self, G.o0, m87 G C O, show nI (pc (mk (th (xS x)) (tR (xT x)))) = nI (nTh x) from rfl, e6, G.r0_9, G.r0_3, G.r0_4]
  refine ⟨fun c => ?_, fun c => ?_⟩
  · rw [if_pos c] at hP
    rw [z76_24 (by simp [pv_cat, Value.category]) (by decide)]
    refine ⟨G.o79, m55 G C O fun h1 f1 U => ?_⟩
    have C1 : cC h1 rt q x := C.fr2 G O (fun o ho => f1 o (by omega)) (fun f hf => by rw [f1 _ (by omega)]; exact C.z f hf) (fun e f he hf => by rw [f1 _ (by omega)]; exact C.zl e f he hf)
    simp only [z76_27, z76_28, z76_31, z76_32, z76_35, z76_36, z76_39, z76_42, z76_43, pv_catN, pv_cat1, pv_cat2, pv_cat3, pv_catL, Option.toList, List.nil_append, List.cons_append, List.append_nil, pv_rfS, pn_i, pn_r, pn_n, pn_o, true_and, and_true, Nat.le_refl, and_self, true_implies, false_implies, not_true_eq_false, not_false_eq_true, pv_b0, pv_b01, pv_bn0, pv_b1, Bool.false_eq_true, Bool.true_eq_false, Bool.not_false, Bool.not_true, pv_bT, pv_bF, eq_self, G.o0, G.S20.1, G.r0_11, G.r0_3, G.r0_4, G.r0_9, C1.S.2.2.2.2.1]
    rw [z76_46 (by simp [pv_cat, Value.category]) (by decide)]
    refine ⟨G.o99, ?_⟩
    have G1 : gC (pv_sr (pv_sr g 99 0 (some 79)) 99 1 (some rt)) rt tt q := G.fr (fun _ => rfl) (fun o k h1 h2 => by rw [sr_ne (by omega), sr_ne (by omega)])
    have FG1 : FG g (pv_sr (pv_sr g 99 0 (some 79)) 99 1 (some rt)) := ⟨fun _ => rfl, fun o k ho => by rw [sr_ne (by omega), sr_ne (by omega)]⟩
    have r0 : pv_rf (pv_sr (pv_sr g 99 0 (some 79)) 99 1 (some rt)) 99 0 = some 79 := by rw [sr_ne (by omega), sr_at]
    have r1 : pv_rf (pv_sr (pv_sr g 99 0 (some 79)) 99 1 (some rt)) 99 1 = some rt := sr_at
    have t99 : ∀ o k v, (pv_tg (pv_sr g o k v) 99).1 = 1 := fun _ _ _ => G.o99
    simp only [e5, z5_0, z5_1, z5_2, z5_5, z5_6, z5_7, z5_10, z5_11, z5_12, z5_15, z5_16, z5_18, z5_21, z5_22, z5_23, pv_catN, pv_cat1, pv_cat2, pv_cat3, pv_catL, Option.toList, List.nil_append, List.cons_append, List.append_nil, pv_rfS, pn_i, pn_r, pn_n, pn_o, true_and, and_true, Nat.le_refl, and_self, true_implies, false_implies, not_true_eq_false, not_false_eq_true, pv_b0, pv_b01, pv_bn0, pv_b1, Bool.false_eq_true, Bool.true_eq_false, Bool.not_false, Bool.not_true, pv_bT, pv_bF, eq_self, G.o99, t99]
    generalize pv_sr (pv_sr g 99 0 (some 79)) 99 1 (some rt) = g1 at *
    rw [z5_24 (by simp [pv_cat, Value.category]) (by decide)]
    have ed : d + 12 = d + (11 - (rp (xS x) (tR (xT x))).length) + (rp (xS x) (tR (xT x))).length + 1 := by omega
    rw [ed]
    refine ⟨G1.o99, G1.o99, m6 (P0 := 0) (h0 := h1) (x := x) G1 C1 O U r0 r1 (rp (xS x) (tR (xT x))) _ 0 0 1000000 (fun _ => 0) _ _ List.drop_zero (Nat.zero_add _) (by omega) (Nat.le_refl _) (fun _ _ => Nat.zero_le _) ?_ (fun h2 A2 => ?_)⟩
    · exact ⟨fun o h1 h2 => by rw [st_o h1, st_o h1], by rw [st_k (by omega), st_at], st_at, fun f hf => by rw [st_o (by omega), st_o (by omega)]; exact C1.z f hf⟩
    simp only [z5_27, z5_28, z5_31, z76_49, pv_catN, pv_cat1, pv_cat2, pv_cat3, pv_catL, Option.toList, List.nil_append, List.cons_append, List.append_nil, pv_rfS, pn_i, pn_r, pn_n, pn_o, true_and, and_true, Nat.le_refl, and_self, true_implies, false_implies, not_true_eq_false, not_false_eq_true, pv_b0, pv_b01, pv_bn0, pv_b1, Bool.false_eq_true, Bool.true_eq_false, Bool.not_false, Bool.not_true, pv_bT, pv_bF, eq_self, G1.o99, A2.2.2.1]
    exact hP g1 h2 ⟨rt, tt, q, G1, C1.fr2 G1 O (fun o ho => A2.1 o (by omega) (by omega)) A2.2.2.2 (fun e f he hf => by rw [A2.1 _ (by omega) (by omega)]; exact C1.zl e f he hf)⟩ FG1 (fun o ho => by rw [A2.1 o (by omega) (by omega), f1 o (by omega)])
  · rw [if_neg c] at hP
    exact hP g h ⟨rt, tt, q, G, C⟩ FG.rf FC.rf
