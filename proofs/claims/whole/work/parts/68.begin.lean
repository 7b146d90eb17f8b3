/-! THE BEGINNING (by program, wip/whole/mk68.py): the class's constructor, the state at first -/
def xBeg : SX := ((2, fun _ => 0, 0, fun _ => 0, fun _ => 0, fun _ => 0), (fun _ => 0, fun _ => 0, fun _ => 0, 0, 0, 9, 9), fun _ => 0, [], none, none, 0, fun _ => 0)
theorem xBeg_ok : okX xBeg := by
  refine ⟨⟨by show 2 ≤ 2; omega, by show 2 ≤ 5; omega, Nat.zero_le _, fun r hr => absurd hr (Nat.not_lt_zero r), fun f _ => Nat.zero_le _⟩, ⟨fun r hr => absurd hr (Nat.not_lt_zero r), by show 0 < 2 ^ 0; decide, Nat.zero_le _, by show 9 ≤ 99; omega, Nat.le_refl 9, fun r hr => absurd hr (Nat.not_lt_zero r), fun r hr => absurd hr (Nat.not_lt_zero r), fun f _ => Nat.zero_le _⟩, fun r hr => absurd hr (Nat.not_lt_zero r), Nat.zero_le _, (fun s hs => by cases hs), (fun s ix z => by cases z), (fun s ix z => by cases z), Nat.zero_le _, fun i hi => absurd hi (Nat.not_lt_zero i)⟩
def EX (g : PvG) (h : PvH) (g' : PvG) (h' : PvH) (m : Nat) : Prop := (∀ a, a < m → pv_tg g' a = pv_tg g a) ∧ (∀ a k, 0 < a → a < m → pv_rf g' a k = pv_rf g a k) ∧ (∀ a, 0 < a → a < m → h' a = h a)
theorem EX.rf {g : PvG} {h : PvH} {m : Nat} : EX g h g h m := ⟨fun _ _ => rfl, fun _ _ _ _ => rfl, fun _ _ _ => rfl⟩
theorem EX.sr {g : PvG} {h : PvH} {k : Nat} {v : Option Nat} {m : Nat} : EX g h (pv_sr g 0 k v) h m := ⟨fun _ _ => rfl, fun a j h0 _ => sr_ne (by omega), fun _ _ _ => rfl⟩
theorem EX.tr {g g1 g2 : PvG} {h h1 h2 : PvH} {m n : Nat} (E : EX g h g1 h1 m) (F : EX g1 h1 g2 h2 n) (hm : m ≤ n) : EX g h g2 h2 m := ⟨fun a ha => (F.1 a (by omega)).trans (E.1 a ha), fun a k h0 ha => (F.2.1 a k h0 (by omega)).trans (E.2.1 a k h0 ha), fun a h0 ha => (F.2.2 a h0 (by omega)).trans (E.2.2 a h0 ha)⟩
theorem gT.ex {g g' : PvG} {h h' : PvH} {o m : Nat} (G : gT g o) (E : EX g h g' h' m) (h0 : 0 < o) (hm : o + 7 < m) : gT g' o := G.tr (fun a x y => E.1 a (by omega)) (fun k => E.2.1 o k h0 (by omega))
theorem gS.ex {g g' : PvG} {h h' : PvH} {o m : Nat} (G : gS g o) (E : EX g h g' h' m) (h0 : 0 < o) (hm : o + 3 < m) : gS g' o := G.tr (fun a x y => E.1 a (by omega)) (fun k => E.2.1 o k h0 (by omega))
def B58 (g : PvG) (h : PvH) (m : Nat) (l : List (Nat × Nat)) : Prop := g.1 = m ∧ 0 < m ∧ (pv_tg g 0).1 = 9 ∧ (∀ e ∈ l, pv_rf g 0 e.1 = some e.2) ∧ h 0 = fun _ => 0
theorem B58.arr {g : PvG} {h : PvH} {m : Nat} {l : List (Nat × Nat)} (B : B58 g h m l) (k t n : Nat) (hk : ∀ e ∈ l, e.1 ≠ k) : B58 (pv_sr (pv_newO g t n) 0 k (some g.1)) (pv_newH g h) (m + 1) (l ++ [(k, m)]) ∧ EX g h (pv_sr (pv_newO g t n) 0 k (some g.1)) (pv_newH g h) m ∧ pv_tg (pv_sr (pv_newO g t n) 0 k (some g.1)) m = (t, n) := by
  obtain ⟨b1, b2, b3, b4, b5⟩ := B
  refine ⟨⟨?_, by omega, ?_, fun e he => ?_, ?_⟩, ⟨fun a ha => ?_, fun a j h0 ha => ?_, fun a h0 ha => ?_⟩, ?_⟩
  · show g.1 + 1 = m + 1
    omega
  · rw [sr_tg, nO_t (by omega)]; exact b3
  · rcases List.mem_append.mp he with y | y
    · rw [sr_ne (fun z => hk e y z.2), nO_r (by omega)]; exact b4 e y
    · rw [List.mem_singleton] at y
      subst y
      show pv_rf _ 0 k = some m
      rw [sr_at, b1]
  · rw [nH_n (by omega)]; exact b5
  · rw [sr_tg, nO_t (by omega)]
  · rw [sr_ne (by omega), nO_r (by omega)]
  · rw [nH_n (by omega)]
  · rw [sr_tg, ← b1, nO_ta]
theorem B58.obj {g : PvG} {h : PvH} {m m' : Nat} {l : List (Nat × Nat)} (B : B58 g h m l) {c k : Nat} {g2 : PvG} {h2 : PvH} (A : AX (pv_newO g c 0) (pv_newH g h) g2 h2 m m') (hk : ∀ e ∈ l, e.1 ≠ k) : B58 (pv_sr g2 0 k (some m)) h2 m' (l ++ [(k, m)]) ∧ EX g h (pv_sr g2 0 k (some m)) h2 m ∧ pv_tg g2 m = (c, 0) ∧ (pv_tg g2 0).1 = 9 := by
  obtain ⟨b1, b2, b3, b4, b5⟩ := B
  obtain ⟨a1, a2, a3, a4, a5⟩ := A
  have t0 : (pv_tg g2 0).1 = 9 := by rw [a3 0 (by omega), nO_t (by omega)]; exact b3
  refine ⟨⟨a1, by omega, ?_, fun e he => ?_, ?_⟩, ⟨fun a ha => ?_, fun a j h0 ha => ?_, fun a h0 ha => ?_⟩, ?_, t0⟩
  · rw [sr_tg]; exact t0
  · rcases List.mem_append.mp he with y | y
    · rw [sr_ne (fun z => hk e y z.2), a4 0 _ b2, nO_r (by omega)]; exact b4 e y
    · rw [List.mem_singleton] at y
      subst y
      show pv_rf _ 0 k = some m
      rw [sr_at]
  · rw [a5 0 b2, nH_n (by omega)]; exact b5
  · rw [sr_tg, a3 a (by omega), nO_t (by omega)]
  · rw [sr_ne (by omega), a4 a j ha, nO_r (by omega)]
  · rw [a5 a ha, nH_n (by omega)]
  · rw [a3 m (Nat.le_refl m), ← b1, nO_ta]
set_option maxHeartbeats 8000000 in
theorem c58 {d : Nat} {P : PvP} {g : PvG} {h : PvH} (hb : g.1 = 1) (T : (pv_tg g 0).1 = 9) (hz : h 0 = fun _ => 0) (hP : ∀ g1 h1, g1.1 = 102 → (∀ g' h', (∀ a, a < 102 → pv_tg g' a = pv_tg g1 a) → (∀ a k, a < 102 → pv_rf g' a k = pv_rf g1 a k) → (∀ a, a < 102 → h' a = h1 a) → gC g' 12 3 (fun i => 27 + 4 * i) ∧ cC h' 12 (fun i => 27 + 4 * i) xBeg) → P none g1 h1) : pv_run (d + 4) 58 [.ref 0] g h P := by
  have B0 : B58 g h 1 [] := ⟨hb, Nat.one_pos, T, (fun e he => by cases he), hz⟩
  rw [e58, z58_0, z58_1 (by simp [pv_cat])]
  have q1 : g.1 = 1 := B0.1
  rw [z58_4, z58_5, n58_7]
  refine ⟨by omega, by decide, by decide, ?_⟩
  rw [z58_9]
  refine ⟨by rw [nO_t (by omega)]; exact B0.2.2.1, ?_⟩
  obtain ⟨B1, E1, f1⟩ := B0.arr 0 100 76 (by simp)
  generalize pv_sr (pv_newO g 100 76) 0 0 (some g.1) = g1 at B1 E1 f1 ⊢
  generalize pv_newH g h = h1 at B1 E1 ⊢
  show pv_E (d + 3) 58 P 12 _ [] 1 76 _ _
  have q2 : g1.1 = 2 := B1.1
  rw [z58_12, n58_13]
  refine ⟨by omega, by decide, by decide, ?_⟩
  rw [y58_16, q2, z58_17 (by simp [pv_cat, Value.category]) (by decide)]
  refine c16 (by show g1.1 + 1 = _; rw [q2]) (by omega) (by rw [← q2, nO_ta]) (fun u2 v2 A2 x2_0 x2_4 xT2 xt2 => ?_)
  obtain ⟨B2, E2, f2, t2⟩ := B1.obj (k := 2) A2 (by simp)
  simp only [pv_catN, pv_cat1, pv_cat2, pv_cat3, pv_catL, Option.toList, List.nil_append, List.cons_append, List.append_nil, pv_rfS, pn_i, pn_r, pn_n, pn_o, true_and, and_true, Nat.le_refl, and_self, true_implies, false_implies, not_true_eq_false, not_false_eq_true, pv_b0, pv_b01, pv_bn0, pv_b1, Bool.false_eq_true, Bool.true_eq_false, Bool.not_false, Bool.not_true, pv_bT, pv_bF, eq_self]
  rw [z58_20]
  refine ⟨t2, ?_⟩
  have Z2 : EX u2 v2 (pv_sr u2 0 2 (some 2)) v2 12 := EX.sr
  generalize hg2 : pv_sr u2 0 2 (some 2) = g2 at B2 E2 Z2 ⊢
  show pv_E (d + 3) 58 P 23 _ [] 11 153 _ _
  have q3 : g2.1 = 12 := B2.1
  rw [z58_23, n58_24]
  refine ⟨by omega, by decide, by decide, ?_⟩
  rw [y58_27, q3, z58_28 (by simp [pv_cat, Value.category]) (by decide)]
  refine c51T (by show g2.1 + 1 = _; rw [q3]) (by omega) (by rw [← q3, nO_ta]) (fun u3 v3 A3 xT3 xw3 xz3 => ?_)
  obtain ⟨B3, E3, f3, t3⟩ := B2.obj (k := 3) A3 (by simp)
  simp only [pv_catN, pv_cat1, pv_cat2, pv_cat3, pv_catL, Option.toList, List.nil_append, List.cons_append, List.append_nil, pv_rfS, pn_i, pn_r, pn_n, pn_o, true_and, and_true, Nat.le_refl, and_self, true_implies, false_implies, not_true_eq_false, not_false_eq_true, pv_b0, pv_b01, pv_bn0, pv_b1, Bool.false_eq_true, Bool.true_eq_false, Bool.not_false, Bool.not_true, pv_bT, pv_bF, eq_self]
  rw [z58_31]
  refine ⟨t3, ?_⟩
  have Z3 : EX u3 v3 (pv_sr u3 0 3 (some 12)) v3 20 := EX.sr
  generalize hg3 : pv_sr u3 0 3 (some 12) = g3 at B3 E3 Z3 ⊢
  show pv_E (d + 3) 58 P 34 _ [] 19 215 _ _
  have q4 : g3.1 = 20 := B3.1
  rw [z58_34, n58_35]
  refine ⟨by omega, by decide, by decide, ?_⟩
  rw [y58_38, q4, z58_39 (by simp [pv_cat, Value.category]) (by decide)]
  refine c38S (by show g3.1 + 1 = _; rw [q4]) (by omega) (by rw [← q4, nO_ta]) (by rw [← q4, nH_a]) (fun u4 v4 A4 xS4 xw4 xz4 => ?_)
  obtain ⟨B4, E4, f4, t4⟩ := B3.obj (k := 4) A4 (by simp)
  simp only [pv_catN, pv_cat1, pv_cat2, pv_cat3, pv_catL, Option.toList, List.nil_append, List.cons_append, List.append_nil, pv_rfS, pn_i, pn_r, pn_n, pn_o, true_and, and_true, Nat.le_refl, and_self, true_implies, false_implies, not_true_eq_false, not_false_eq_true, pv_b0, pv_b01, pv_bn0, pv_b1, Bool.false_eq_true, Bool.true_eq_false, Bool.not_false, Bool.not_true, pv_bT, pv_bF, eq_self]
  rw [z58_42]
  refine ⟨t4, ?_⟩
  have Z4 : EX u4 v4 (pv_sr u4 0 4 (some 20)) v4 24 := EX.sr
  generalize hg4 : pv_sr u4 0 4 (some 20) = g4 at B4 E4 Z4 ⊢
  show pv_E (d + 3) 58 P 45 _ [] 23 246 _ _
  have q5 : g4.1 = 24 := B4.1
  rw [z58_45, z58_46, n58_48]
  refine ⟨by omega, by decide, by decide, ?_⟩
  rw [z58_50]
  refine ⟨by rw [nO_t (by omega)]; exact B4.2.2.1, ?_⟩
  obtain ⟨B5, E5, f5⟩ := B4.arr 5 100 8 (by simp)
  generalize pv_sr (pv_newO g4 100 8) 0 5 (some g4.1) = g5 at B5 E5 f5 ⊢
  generalize pv_newH g4 v4 = h5 at B5 E5 ⊢
  show pv_E (d + 3) 58 P 53 _ [] 24 254 _ _
  have q6 : g5.1 = 25 := B5.1
  rw [z58_53, n58_54]
  refine ⟨by omega, by decide, by decide, ?_⟩
  rw [y58_57, q6, z58_58 (by simp [pv_cat, Value.category]) (by decide)]
  refine c0 (by show g5.1 + 1 = _; rw [q6]) (by omega) (by rw [← q6, nO_ta]) (fun u6 v6 A6 x6_0 xt6 xq6 xS6 xw6 => ?_)
  obtain ⟨B6, E6, f6, t6⟩ := B5.obj (k := 6) A6 (by simp)
  simp only [pv_catN, pv_cat1, pv_cat2, pv_cat3, pv_catL, Option.toList, List.nil_append, List.cons_append, List.append_nil, pv_rfS, pn_i, pn_r, pn_n, pn_o, true_and, and_true, Nat.le_refl, and_self, true_implies, false_implies, not_true_eq_false, not_false_eq_true, pv_b0, pv_b01, pv_bn0, pv_b1, Bool.false_eq_true, Bool.true_eq_false, Bool.not_false, Bool.not_true, pv_bT, pv_bF, eq_self]
  rw [z58_61]
  refine ⟨t6, ?_⟩
  have Z6 : EX u6 v6 (pv_sr u6 0 6 (some 25)) v6 67 := EX.sr
  generalize hg6 : pv_sr u6 0 6 (some 25) = g6 at B6 E6 Z6 ⊢
  show pv_E (d + 3) 58 P 64 _ [] 66 576 _ _
  have q7 : g6.1 = 67 := B6.1
  rw [z58_64, n58_65]
  refine ⟨by omega, by decide, by decide, ?_⟩
  rw [y58_68, q7, z58_69 (by simp [pv_cat, Value.category]) (by decide)]
  refine c37 (by show g6.1 + 1 = _; rw [q7]) (by omega) (by rw [← q7, nO_ta]) (fun u7 v7 A7 x7_1 x7_2 xS7 xt7 xw7 => ?_)
  obtain ⟨B7, E7, f7, t7⟩ := B6.obj (k := 7) A7 (by simp)
  simp only [pv_catN, pv_cat1, pv_cat2, pv_cat3, pv_catL, Option.toList, List.nil_append, List.cons_append, List.append_nil, pv_rfS, pn_i, pn_r, pn_n, pn_o, true_and, and_true, Nat.le_refl, and_self, true_implies, false_implies, not_true_eq_false, not_false_eq_true, pv_b0, pv_b01, pv_bn0, pv_b1, Bool.false_eq_true, Bool.true_eq_false, Bool.not_false, Bool.not_true, pv_bT, pv_bF, eq_self]
  rw [z58_72]
  refine ⟨t7, ?_⟩
  have Z7 : EX u7 v7 (pv_sr u7 0 7 (some 67)) v7 73 := EX.sr
  generalize hg7 : pv_sr u7 0 7 (some 67) = g7 at B7 E7 Z7 ⊢
  show pv_E (d + 3) 58 P 75 _ [] 72 618 _ _
  have q8 : g7.1 = 73 := B7.1
  rw [z58_75, n58_76]
  refine ⟨by omega, by decide, by decide, ?_⟩
  rw [y58_79, q8, z58_80 (by simp [pv_cat, Value.category]) (by decide)]
  refine c37 (by show g7.1 + 1 = _; rw [q8]) (by omega) (by rw [← q8, nO_ta]) (fun u8 v8 A8 x8_1 x8_2 xS8 xt8 xw8 => ?_)
  obtain ⟨B8, E8, f8, t8⟩ := B7.obj (k := 8) A8 (by simp)
  simp only [pv_catN, pv_cat1, pv_cat2, pv_cat3, pv_catL, Option.toList, List.nil_append, List.cons_append, List.append_nil, pv_rfS, pn_i, pn_r, pn_n, pn_o, true_and, and_true, Nat.le_refl, and_self, true_implies, false_implies, not_true_eq_false, not_false_eq_true, pv_b0, pv_b01, pv_bn0, pv_b1, Bool.false_eq_true, Bool.true_eq_false, Bool.not_false, Bool.not_true, pv_bT, pv_bF, eq_self]
  rw [z58_83]
  refine ⟨t8, ?_⟩
  have Z8 : EX u8 v8 (pv_sr u8 0 8 (some 73)) v8 79 := EX.sr
  generalize hg8 : pv_sr u8 0 8 (some 73) = g8 at B8 E8 Z8 ⊢
  show pv_E (d + 3) 58 P 86 _ [] 78 660 _ _
  have q9 : g8.1 = 79 := B8.1
  rw [z58_86, n58_87]
  refine ⟨by omega, by decide, by decide, ?_⟩
  rw [y58_90, q9, z58_91 (by simp [pv_cat, Value.category]) (by decide)]
  refine c54 (by show g8.1 + 1 = _; rw [q9]) (by omega) (by rw [← q9, nO_ta]) (fun u9 v9 A9 => ?_)
  obtain ⟨B9, E9, f9, t9⟩ := B8.obj (k := 9) A9.ax (by simp)
  simp only [pv_catN, pv_cat1, pv_cat2, pv_cat3, pv_catL, Option.toList, List.nil_append, List.cons_append, List.append_nil, pv_rfS, pn_i, pn_r, pn_n, pn_o, true_and, and_true, Nat.le_refl, and_self, true_implies, false_implies, not_true_eq_false, not_false_eq_true, pv_b0, pv_b01, pv_bn0, pv_b1, Bool.false_eq_true, Bool.true_eq_false, Bool.not_false, Bool.not_true, pv_bT, pv_bF, eq_self]
  rw [z58_94]
  refine ⟨t9, ?_⟩
  have Z9 : EX u9 v9 (pv_sr u9 0 9 (some 79)) v9 84 := EX.sr
  generalize hg9 : pv_sr u9 0 9 (some 79) = g9 at B9 E9 Z9 ⊢
  show pv_E (d + 3) 58 P 97 _ [] 83 697 _ _
  have q10 : g9.1 = 84 := B9.1
  rw [z58_97, n58_98]
  refine ⟨by omega, by decide, by decide, ?_⟩
  rw [y58_101, q10, z58_102 (by simp [pv_cat, Value.category]) (by decide)]
  refine c11 (by show g9.1 + 1 = _; rw [q10]) (by omega) (by rw [← q10, nO_ta]) (fun u10 v10 A10 => ?_)
  obtain ⟨B10, E10, f10, t10⟩ := B9.obj (k := 10) A10.ax (by simp)
  simp only [pv_catN, pv_cat1, pv_cat2, pv_cat3, pv_catL, Option.toList, List.nil_append, List.cons_append, List.append_nil, pv_rfS, pn_i, pn_r, pn_n, pn_o, true_and, and_true, Nat.le_refl, and_self, true_implies, false_implies, not_true_eq_false, not_false_eq_true, pv_b0, pv_b01, pv_bn0, pv_b1, Bool.false_eq_true, Bool.true_eq_false, Bool.not_false, Bool.not_true, pv_bT, pv_bF, eq_self]
  rw [z58_105]
  refine ⟨t10, ?_⟩
  have Z10 : EX u10 v10 (pv_sr u10 0 10 (some 84)) v10 99 := EX.sr
  generalize hg10 : pv_sr u10 0 10 (some 84) = g10 at B10 E10 Z10 ⊢
  show pv_E (d + 3) 58 P 108 _ [] 98 784 _ _
  have q11 : g10.1 = 99 := B10.1
  rw [z58_108, n58_109]
  refine ⟨by omega, by decide, by decide, ?_⟩
  rw [y58_112, q11, z58_113 (by simp [pv_cat, Value.category]) (by decide)]
  refine c4 (by show g10.1 + 1 = _; rw [q11]) (by omega) (by rw [← q11, nO_ta]) (fun u11 v11 A11 => ?_)
  obtain ⟨B11, E11, f11, t11⟩ := B10.obj (k := 11) A11.ax (by simp)
  simp only [pv_catN, pv_cat1, pv_cat2, pv_cat3, pv_catL, Option.toList, List.nil_append, List.cons_append, List.append_nil, pv_rfS, pn_i, pn_r, pn_n, pn_o, true_and, and_true, Nat.le_refl, and_self, true_implies, false_implies, not_true_eq_false, not_false_eq_true, pv_b0, pv_b01, pv_bn0, pv_b1, Bool.false_eq_true, Bool.true_eq_false, Bool.not_false, Bool.not_true, pv_bT, pv_bF, eq_self]
  rw [z58_116]
  refine ⟨t11, ?_⟩
  have Z11 : EX u11 v11 (pv_sr u11 0 11 (some 99)) v11 101 := EX.sr
  generalize hg11 : pv_sr u11 0 11 (some 99) = g11 at B11 E11 Z11 ⊢
  show pv_E (d + 3) 58 P 119 _ [] 100 794 _ _
  have q12 : g11.1 = 101 := B11.1
  rw [z58_119, n58_120]
  refine ⟨by omega, by decide, by decide, ?_⟩
  rw [y58_123, q12, z58_124 (by simp [pv_cat, Value.category]) (by decide)]
  refine c7 (by show g11.1 + 1 = _; rw [q12]) (by omega) (by rw [← q12, nO_ta]) (fun u12 v12 A12 => ?_)
  obtain ⟨B12, E12, f12, t12⟩ := B11.obj (k := 12) A12.ax (by simp)
  simp only [pv_catN, pv_cat1, pv_cat2, pv_cat3, pv_catL, Option.toList, List.nil_append, List.cons_append, List.append_nil, pv_rfS, pn_i, pn_r, pn_n, pn_o, true_and, and_true, Nat.le_refl, and_self, true_implies, false_implies, not_true_eq_false, not_false_eq_true, pv_b0, pv_b01, pv_bn0, pv_b1, Bool.false_eq_true, Bool.true_eq_false, Bool.not_false, Bool.not_true, pv_bT, pv_bF, eq_self]
  rw [z58_127]
  refine ⟨t12, ?_⟩
  have Z12 : EX u12 v12 (pv_sr u12 0 12 (some 101)) v12 102 := EX.sr
  generalize hg12 : pv_sr u12 0 12 (some 101) = g12 at B12 E12 Z12 ⊢
  show pv_E (d + 3) 58 P 130 _ [] 101 797 _ _
  have r3 : pv_rf g12 0 3 = some 12 := B12.2.2.2.1 (3, 12) (by simp)
  have X12 : EX g12 v12 g12 v12 102 := EX.rf
  have X11 : EX g11 v11 g12 v12 101 := E12.tr X12 (by omega)
  have X10 : EX g10 v10 g12 v12 99 := E11.tr X11 (by omega)
  have X9 : EX g9 v9 g12 v12 84 := E10.tr X10 (by omega)
  have X8 : EX g8 v8 g12 v12 79 := E9.tr X9 (by omega)
  have X7 : EX g7 v7 g12 v12 73 := E8.tr X8 (by omega)
  have X6 : EX g6 v6 g12 v12 67 := E7.tr X7 (by omega)
  have X5 : EX g5 h5 g12 v12 25 := E6.tr X6 (by omega)
  have X4 : EX g4 v4 g12 v12 24 := E5.tr X5 (by omega)
  have X3 : EX g3 v3 g12 v12 20 := E4.tr X4 (by omega)
  have X2 : EX g2 v2 g12 v12 12 := E3.tr X3 (by omega)
  have X1 : EX g1 h1 g12 v12 2 := E2.tr X2 (by omega)
  have Y2 : EX u2 v2 g12 v12 12 := Z2.tr X2 (by omega)
  have Y3 : EX u3 v3 g12 v12 20 := Z3.tr X3 (by omega)
  have Y4 : EX u4 v4 g12 v12 24 := Z4.tr X4 (by omega)
  have Y6 : EX u6 v6 g12 v12 67 := Z6.tr X6 (by omega)
  have Y7 : EX u7 v7 g12 v12 73 := Z7.tr X7 (by omega)
  have Y8 : EX u8 v8 g12 v12 79 := Z8.tr X8 (by omega)
  have Y9 : EX u9 v9 g12 v12 84 := Z9.tr X9 (by omega)
  have Y10 : EX u10 v10 g12 v12 99 := Z10.tr X10 (by omega)
  have Y11 : EX u11 v11 g12 v12 101 := Z11.tr X11 (by omega)
  have Y12 : EX u12 v12 g12 v12 102 := Z12.tr X12 (by omega)
  have t12' : (pv_tg g12 12).1 = 7 := by rw [Y3.1 12 (by omega), f3]
  simp only [z58_130, z58_131, z58_134, z58_135, pv_catN, pv_cat1, pv_cat2, pv_cat3, pv_catL, Option.toList, List.nil_append, List.cons_append, List.append_nil, pv_rfS, pn_i, pn_r, pn_n, pn_o, true_and, and_true, Nat.le_refl, and_self, true_implies, false_implies, not_true_eq_false, not_false_eq_true, pv_b0, pv_b01, pv_bn0, pv_b1, Bool.false_eq_true, Bool.true_eq_false, Bool.not_false, Bool.not_true, pv_bT, pv_bF, eq_self, B12.2.2.1, r3, t12']
  show pv_E (d + 3) 58 P 138 _ [] 101 797 _ _
  rw [z58_138]
  refine hP _ _ B12.1 (fun g' h' ht hr hh => ?_)
  have W : EX g12 (pv_st v12 12 0 2) g' h' 102 := ⟨ht, fun a k _ ha => hr a k ha, fun a _ ha => hh a ha⟩
  have V : ∀ a, 0 < a → a < 102 → a ≠ 12 → h' a = v12 a := fun a h0 ha hn => by rw [W.2.2 a h0 ha, st_o hn]
  refine ⟨⟨(by rw [ht 0 (by omega)]; exact B12.2.2.1), (by rw [W.1 2 (by omega), Y2.1 2 (by omega)]; exact congrArg Prod.fst f2), (by rw [W.1 25 (by omega), Y6.1 25 (by omega)]; exact congrArg Prod.fst f6), (by rw [W.1 67 (by omega), Y7.1 67 (by omega)]; exact congrArg Prod.fst f7), (by rw [W.1 73 (by omega), Y8.1 73 (by omega)]; exact congrArg Prod.fst f8), (by rw [W.1 79 (by omega), Y9.1 79 (by omega)]; exact congrArg Prod.fst f9), (by rw [W.1 84 (by omega), Y10.1 84 (by omega)]; exact congrArg Prod.fst f10), (by rw [W.1 99 (by omega), Y11.1 99 (by omega)]; exact congrArg Prod.fst f11), (by rw [W.1 101 (by omega), Y12.1 101 (by omega)]; exact congrArg Prod.fst f12), (by rw [hr 0 0 (by omega)]; exact B12.2.2.2.1 (0, 1) (by simp)), (by rw [hr 0 2 (by omega)]; exact B12.2.2.2.1 (2, 2) (by simp)), (by rw [hr 0 3 (by omega)]; exact B12.2.2.2.1 (3, 12) (by simp)), (by rw [hr 0 4 (by omega)]; exact B12.2.2.2.1 (4, 20) (by simp)), (by rw [hr 0 5 (by omega)]; exact B12.2.2.2.1 (5, 24) (by simp)), (by rw [hr 0 6 (by omega)]; exact B12.2.2.2.1 (6, 25) (by simp)), (by rw [hr 0 7 (by omega)]; exact B12.2.2.2.1 (7, 67) (by simp)), (by rw [hr 0 8 (by omega)]; exact B12.2.2.2.1 (8, 73) (by simp)), (by rw [hr 0 9 (by omega)]; exact B12.2.2.2.1 (9, 79) (by simp)), (by rw [hr 0 10 (by omega)]; exact B12.2.2.2.1 (10, 84) (by simp)), (by rw [hr 0 11 (by omega)]; exact B12.2.2.2.1 (11, 99) (by simp)), (by rw [hr 0 12 (by omega)]; exact B12.2.2.2.1 (12, 101) (by simp)), (by rw [W.2.1 2 0 (by omega) (by omega), Y2.2.1 2 0 (by omega) (by omega)]; exact x2_0), (by rw [W.2.1 2 4 (by omega) (by omega), Y2.2.1 2 4 (by omega) (by omega)]; exact x2_4), (by rw [W.2.1 25 0 (by omega) (by omega), Y6.2.1 25 0 (by omega) (by omega)]; exact x6_0), (by rw [W.2.1 67 1 (by omega) (by omega), Y7.2.1 67 1 (by omega) (by omega)]; exact x7_1), (by rw [W.2.1 67 2 (by omega) (by omega), Y7.2.1 67 2 (by omega) (by omega)]; exact x7_2), (by rw [W.2.1 73 1 (by omega) (by omega), Y8.2.1 73 1 (by omega) (by omega)]; exact x8_1), (by rw [W.2.1 73 2 (by omega) (by omega), Y8.2.1 73 2 (by omega) (by omega)]; exact x8_2), (by rw [W.2.1 79 1 (by omega) (by omega), Y9.2.1 79 1 (by omega) (by omega)]; exact (A9.f 1 80 100 8 (by simp)).2), (by rw [W.2.1 79 2 (by omega) (by omega), Y9.2.1 79 2 (by omega) (by omega)]; exact (A9.f 2 81 100 8 (by simp)).2), (by rw [W.2.1 79 3 (by omega) (by omega), Y9.2.1 79 3 (by omega) (by omega)]; exact (A9.f 3 82 100 8 (by simp)).2), (by rw [W.2.1 79 4 (by omega) (by omega), Y9.2.1 79 4 (by omega) (by omega)]; exact (A9.f 4 83 100 8 (by simp)).2), (by rw [W.2.1 84 2 (by omega) (by omega), Y10.2.1 84 2 (by omega) (by omega)]; exact (A10.f 2 85 100 4 (by simp)).2), (by rw [W.2.1 84 7 (by omega) (by omega), Y10.2.1 84 7 (by omega) (by omega)]; exact (A10.f 7 86 100 5 (by simp)).2), (by rw [W.2.1 84 8 (by omega) (by omega), Y10.2.1 84 8 (by omega) (by omega)]; exact (A10.f 8 87 100 3 (by simp)).2), (by rw [W.2.1 84 9 (by omega) (by omega), Y10.2.1 84 9 (by omega) (by omega)]; exact (A10.f 9 88 103 3 (by simp)).2), (by rw [W.2.1 84 10 (by omega) (by omega), Y10.2.1 84 10 (by omega) (by omega)]; exact (A10.f 10 92 103 4 (by simp)).2), (by rw [W.2.1 84 11 (by omega) (by omega), Y10.2.1 84 11 (by omega) (by omega)]; exact (A10.f 11 97 100 12 (by simp)).2), (by rw [W.2.1 84 12 (by omega) (by omega), Y10.2.1 84 12 (by omega) (by omega)]; exact (A10.f 12 98 100 12 (by simp)).2), (by rw [W.2.1 88 0 (by omega) (by omega), Y10.2.1 88 0 (by omega) (by omega)]; exact (A10.2.2.2.2.2.2.2.2 (88, 0, 89, 100, 5) (by simp)).2.2.2.2), (by rw [W.2.1 88 1 (by omega) (by omega), Y10.2.1 88 1 (by omega) (by omega)]; exact (A10.2.2.2.2.2.2.2.2 (88, 1, 90, 100, 5) (by simp)).2.2.2.2), (by rw [W.2.1 88 2 (by omega) (by omega), Y10.2.1 88 2 (by omega) (by omega)]; exact (A10.2.2.2.2.2.2.2.2 (88, 2, 91, 100, 5) (by simp)).2.2.2.2), (by rw [W.2.1 92 0 (by omega) (by omega), Y10.2.1 92 0 (by omega) (by omega)]; exact (A10.2.2.2.2.2.2.2.2 (92, 0, 93, 100, 4) (by simp)).2.2.2.2), (by rw [W.2.1 92 1 (by omega) (by omega), Y10.2.1 92 1 (by omega) (by omega)]; exact (A10.2.2.2.2.2.2.2.2 (92, 1, 94, 100, 4) (by simp)).2.2.2.2), (by rw [W.2.1 92 2 (by omega) (by omega), Y10.2.1 92 2 (by omega) (by omega)]; exact (A10.2.2.2.2.2.2.2.2 (92, 2, 95, 100, 4) (by simp)).2.2.2.2), (by rw [W.2.1 92 3 (by omega) (by omega), Y10.2.1 92 3 (by omega) (by omega)]; exact (A10.2.2.2.2.2.2.2.2 (92, 3, 96, 100, 4) (by simp)).2.2.2.2), (by rw [W.2.1 99 4 (by omega) (by omega), Y11.2.1 99 4 (by omega) (by omega)]; exact (A11.f 4 100 100 5 (by simp)).2), (by rw [W.1 1 (by omega), X1.1 1 (by omega)]; exact f1), (by rw [W.1 11 (by omega), Y2.1 11 (by omega)]; exact xt2), (by rw [W.1 24 (by omega), X5.1 24 (by omega)]; exact f5), (by rw [W.1 26 (by omega), Y6.1 26 (by omega)]; exact xt6), (by rw [W.1 72 (by omega), Y7.1 72 (by omega)]; exact xt7), (by rw [W.1 78 (by omega), Y8.1 78 (by omega)]; exact xt8), (by rw [W.1 80 (by omega), Y9.1 80 (by omega)]; exact (A9.f 1 80 100 8 (by simp)).1), (by rw [W.1 81 (by omega), Y9.1 81 (by omega)]; exact (A9.f 2 81 100 8 (by simp)).1), (by rw [W.1 82 (by omega), Y9.1 82 (by omega)]; exact (A9.f 3 82 100 8 (by simp)).1), (by rw [W.1 83 (by omega), Y9.1 83 (by omega)]; exact (A9.f 4 83 100 8 (by simp)).1), (by rw [W.1 85 (by omega), Y10.1 85 (by omega)]; exact (A10.f 2 85 100 4 (by simp)).1), (by rw [W.1 86 (by omega), Y10.1 86 (by omega)]; exact (A10.f 7 86 100 5 (by simp)).1), (by rw [W.1 87 (by omega), Y10.1 87 (by omega)]; exact (A10.f 8 87 100 3 (by simp)).1), (by rw [W.1 88 (by omega), Y10.1 88 (by omega)]; exact (A10.f 9 88 103 3 (by simp)).1), (by rw [W.1 89 (by omega), Y10.1 89 (by omega)]; exact (A10.2.2.2.2.2.2.2.2 (88, 0, 89, 100, 5) (by simp)).2.2.2.1), (by rw [W.1 90 (by omega), Y10.1 90 (by omega)]; exact (A10.2.2.2.2.2.2.2.2 (88, 1, 90, 100, 5) (by simp)).2.2.2.1), (by rw [W.1 91 (by omega), Y10.1 91 (by omega)]; exact (A10.2.2.2.2.2.2.2.2 (88, 2, 91, 100, 5) (by simp)).2.2.2.1), (by rw [W.1 92 (by omega), Y10.1 92 (by omega)]; exact (A10.f 10 92 103 4 (by simp)).1), (by rw [W.1 93 (by omega), Y10.1 93 (by omega)]; exact (A10.2.2.2.2.2.2.2.2 (92, 0, 93, 100, 4) (by simp)).2.2.2.1), (by rw [W.1 94 (by omega), Y10.1 94 (by omega)]; exact (A10.2.2.2.2.2.2.2.2 (92, 1, 94, 100, 4) (by simp)).2.2.2.1), (by rw [W.1 95 (by omega), Y10.1 95 (by omega)]; exact (A10.2.2.2.2.2.2.2.2 (92, 2, 95, 100, 4) (by simp)).2.2.2.1), (by rw [W.1 96 (by omega), Y10.1 96 (by omega)]; exact (A10.2.2.2.2.2.2.2.2 (92, 3, 96, 100, 4) (by simp)).2.2.2.1), (by rw [W.1 97 (by omega), Y10.1 97 (by omega)]; exact (A10.f 11 97 100 12 (by simp)).1), (by rw [W.1 98 (by omega), Y10.1 98 (by omega)]; exact (A10.f 12 98 100 12 (by simp)).1), (by rw [W.1 100 (by omega), Y11.1 100 (by omega)]; exact (A11.f 4 100 100 5 (by simp)).1), (gT.tr (xT2.ex Y2 (by omega) (by omega)) (fun a x y => W.1 a (by omega)) (fun k => W.2.1 3 k (by omega) (by omega))), (gT.tr (xT3.ex Y3 (by omega) (by omega)) (fun a x y => W.1 a (by omega)) (fun k => W.2.1 12 k (by omega) (by omega))), (gS.tr (xS4.ex Y4 (by omega) (by omega)) (fun a x y => W.1 a (by omega)) (fun k => W.2.1 20 k (by omega) (by omega))), (gS.tr (xS7.ex Y7 (by omega) (by omega)) (fun a x y => W.1 a (by omega)) (fun k => W.2.1 68 k (by omega) (by omega))), (gS.tr (xS8.ex Y8 (by omega) (by omega)) (fun a x y => W.1 a (by omega)) (fun k => W.2.1 74 k (by omega) (by omega))), (fun j hj => gS.tr ((xS6 j hj).ex Y6 (by omega) (by omega)) (fun a x y => W.1 a (by omega)) (fun k => W.2.1 _ k (by omega) (by omega))), (fun i hi => by rw [W.2.1 26 i (by omega) (by omega), Y6.2.1 26 i (by omega) (by omega)]; exact xq6 i hi), (fun i hi => ⟨i, hi, rfl⟩), (fun i j hi hj e => by have e : 27 + 4 * i = 27 + 4 * j := e; omega), (Or.inr ⟨rfl, rfl⟩)⟩, ?_⟩
  have h12 : h' 12 = pv_st v12 12 0 2 12 := W.2.2 12 (by omega) (by omega)
  have z12 : v12 12 = fun _ => 0 := by rw [Y3.2.2 12 (by omega) (by omega), xw3, ← q3, nH_a]
  have z13 : h' 13 = fun _ => 0 := by rw [V 13 (by omega) (by omega) (by omega), Y3.2.2 13 (by omega) (by omega)]; exact xz3 13 (by omega) (by omega)
  have w20 : h' 20 = W9 := by rw [V 20 (by omega) (by omega) (by omega), Y4.2.2 20 (by omega) (by omega)]; exact xw4
  have z25 : h' 25 = fun _ => 0 := by rw [V 25 (by omega) (by omega) (by omega), Y6.2.2 25 (by omega) (by omega), xw6, ← q6, nH_a]
  have z67 : h' 67 = fun _ => 0 := by rw [V 67 (by omega) (by omega) (by omega), Y7.2.2 67 (by omega) (by omega), xw7, ← q7, nH_a]
  have z73 : h' 73 = fun _ => 0 := by rw [V 73 (by omega) (by omega) (by omega), Y8.2.2 73 (by omega) (by omega), xw8, ← q8, nH_a]
  have z100 : h' 100 = fun _ => 0 := by rw [V 100 (by omega) (by omega) (by omega), Y11.2.2 100 (by omega) (by omega)]; exact A11.z (by omega) (by omega)
  have zl : ∀ e, e < 3 → h' (89 + e) = fun _ => 0 := fun e he => by rw [V (89 + e) (by omega) (by omega) (by omega), Y10.2.2 (89 + e) (by omega) (by omega)]; exact A10.z (by omega) (by omega)
  have z0 : h' 0 = fun _ => 0 := by rw [hh 0 (by omega), st_o (by decide)]; exact B12.2.2.2.2
  refine ⟨⟨?_, fun f hf => ?_, ?_, fun r hr => absurd hr (Nat.not_lt_zero r), fun r hr => absurd hr (Nat.not_lt_zero r), fun r hr => absurd hr (Nat.not_lt_zero r)⟩, ⟨fun r hr => absurd hr (Nat.not_lt_zero r), fun r hr => absurd hr (Nat.not_lt_zero r), fun r hr => absurd hr (Nat.not_lt_zero r), ?_, ?_, ?_, ?_⟩, fun r hr => absurd hr (Nat.not_lt_zero r), ?_, (fun i s hs => by cases hs), ⟨?_, (fun s ix z => by cases z)⟩, ⟨?_, (fun s ix z => by cases z)⟩, ?_, fun i hi => absurd hi (Nat.not_lt_zero i), fun f hf => ?_, fun e f he hf => ?_⟩
  · rw [h12, st_at]; rfl
  · rw [z13]; rfl
  · rw [h12, st_k (by decide), z12]; rfl
  · rw [w20]; rfl
  · rw [w20]; rfl
  · rw [w20]; rfl
  · rw [w20]; rfl
  · rw [z25]; rfl
  · rw [z67]; rfl
  · rw [z73]; rfl
  · rw [z0]; rfl
  · rw [z100]
  · rw [zl e he]
set_option maxHeartbeats 4000000 in
theorem c99M {g0 g : PvG} {h0 h : PvH} {W : Nat → Int32} (A : AL g0 h0 102 (102 + 25) [(1, 102 + 1, 100, 76), (5, 102 + 2, 100, 5), (7, 102 + 3, 100, 8), (8, 102 + 4, 100, 8), (9, 102 + 5, 100, 8), (10, 102 + 6, 100, 8), (11, 102 + 7, 100, 8), (12, 102 + 8, 101, 8), (13, 102 + 9, 100, 8), (14, 102 + 10, 101, 64), (19, 102 + 11, 100, 5), (20, 102 + 12, 100, 5), (22, 102 + 13, 100, 40), (23, 102 + 14, 101, 64), (24, 102 + 15, 100, 350), (26, 102 + 16, 100, 86), (27, 102 + 17, 101, 2), (28, 102 + 18, 100, 32), (29, 102 + 19, 100, 32), (30, 102 + 20, 101, 32), (31, 102 + 21, 100, 4), (34, 102 + 22, 100, 8), (35, 102 + 23, 100, 8), (36, 102 + 24, 100, 5)] [] g h W) (T : (pv_tg g0 102).1 = 10) (hW : W 2 = 0 ∧ W 4 = 2 ∧ W 6 = 0 ∧ W 15 = 0 ∧ W 16 = 9 ∧ W 17 = 9 ∧ W 25 = 0) : RM g h xBeg := by
  obtain ⟨w2, w4, w6, w15, w16, w17, w25⟩ := hW
  refine ⟨⟨by rw [A.2.2.1 102 (by omega)]; exact T, (A.f 1 103 100 76 (by simp)).2, (A.f 5 104 100 5 (by simp)).2, (A.f 7 105 100 8 (by simp)).2, (A.f 8 106 100 8 (by simp)).2, (A.f 9 107 100 8 (by simp)).2, (A.f 10 108 100 8 (by simp)).2, (A.f 11 109 100 8 (by simp)).2, (A.f 12 110 101 8 (by simp)).2, (A.f 13 111 100 8 (by simp)).2, (A.f 14 112 101 64 (by simp)).2, (A.f 19 113 100 5 (by simp)).2, (A.f 20 114 100 5 (by simp)).2, (A.f 22 115 100 40 (by simp)).2, (A.f 23 116 101 64 (by simp)).2, (A.f 24 117 100 350 (by simp)).2, (A.f 26 118 100 86 (by simp)).2, (A.f 27 119 101 2 (by simp)).2, (A.f 28 120 100 32 (by simp)).2, (A.f 29 121 100 32 (by simp)).2, (A.f 30 122 101 32 (by simp)).2, (A.f 31 123 100 4 (by simp)).2, (A.f 34 124 100 8 (by simp)).2, (A.f 35 125 100 8 (by simp)).2, (A.f 36 126 100 5 (by simp)).2, (A.f 1 103 100 76 (by simp)).1, (A.f 5 104 100 5 (by simp)).1, (A.f 7 105 100 8 (by simp)).1, (A.f 8 106 100 8 (by simp)).1, (A.f 9 107 100 8 (by simp)).1, (A.f 10 108 100 8 (by simp)).1, (A.f 11 109 100 8 (by simp)).1, (A.f 12 110 101 8 (by simp)).1, (A.f 13 111 100 8 (by simp)).1, (A.f 14 112 101 64 (by simp)).1, (A.f 19 113 100 5 (by simp)).1, (A.f 20 114 100 5 (by simp)).1, (A.f 22 115 100 40 (by simp)).1, (A.f 23 116 101 64 (by simp)).1, (A.f 24 117 100 350 (by simp)).1, (A.f 26 118 100 86 (by simp)).1, (A.f 27 119 101 2 (by simp)).1, (A.f 28 120 100 32 (by simp)).1, (A.f 29 121 100 32 (by simp)).1, (A.f 30 122 101 32 (by simp)).1, (A.f 31 123 100 4 (by simp)).1, (A.f 34 124 100 8 (by simp)).1, (A.f 35 125 100 8 (by simp)).1, (A.f 36 126 100 5 (by simp)).1⟩, ⟨?_, fun f hf => ?_, ?_, fun r hr => absurd hr (Nat.not_lt_zero r), fun r hr => absurd hr (Nat.not_lt_zero r), fun r hr => absurd hr (Nat.not_lt_zero r), fun r hr => absurd hr (Nat.not_lt_zero r), fun r hr => absurd hr (Nat.not_lt_zero r), fun r hr => absurd hr (Nat.not_lt_zero r), fun r hr => absurd hr (Nat.not_lt_zero r), fun r o hr _ => absurd hr (Nat.not_lt_zero r), ?_, ?_, ?_⟩, ?_, (fun i s hs => by cases hs), ⟨?_, (fun s ix z => by cases z)⟩, ⟨?_, (fun s ix z => by cases z)⟩, ?_, fun i hi => absurd hi (Nat.not_lt_zero i)⟩
  · rw [A.w, w4]; rfl
  · rw [A.z (a := 104) (by omega) (by omega)]; rfl
  · rw [A.w, w6]; rfl
  · rw [A.w, w15]; rfl
  · rw [A.w, w16]; rfl
  · rw [A.w, w17]; rfl
  · rw [A.w, w25]; rfl
  · rw [A.z (a := 119) (by omega) (by omega)]; rfl
  · rw [A.z (a := 119) (by omega) (by omega)]; rfl
  · rw [A.w, w2]; rfl
