/-! ALLOCATION: rows, what it leaves (by program, wip/whole/mk66.py) -/
theorem pn_int {d id pc : Nat} {P : PvP} {ls : PvL} {st : List Value} {cs ss : Nat} {g : PvG} {h : PvH} {c : Int32} {n : Nat} (hd : decode (pv_cd id) pc = .ok (.newarray .int, 2)) (hc : ¬ c < 0) (hn : c.toNatClampNeg = n) (hn2 : n ≤ 1000) : pv_E d id P pc ls (.int c :: st) cs ss g h = (g.1 < 1000 ∧ cs + 1 ≤ pv_mc id ∧ ss + n ≤ pv_ms id ∧ pv_E d id P (pc + 2) ls (.ref g.1 :: st) (cs + 1) (ss + n) (pv_newO g 100 n) (pv_newH g h)) := by
  rw [pe_go hd]
  simp only [pv_sem, pv_Fr, pv_i1, hn, true_and]
  exact propext ⟨fun q => ⟨q.1, q.2.2.2.1, q.2.2.2.2.1, q.2.2.2.2.2⟩, fun q => ⟨q.1, hc, hn2, q.2.1, q.2.2.1, q.2.2.2⟩⟩
theorem pn_bool {d id pc : Nat} {P : PvP} {ls : PvL} {st : List Value} {cs ss : Nat} {g : PvG} {h : PvH} {c : Int32} {n : Nat} (hd : decode (pv_cd id) pc = .ok (.newarray .boolean, 2)) (hc : ¬ c < 0) (hn : c.toNatClampNeg = n) (hn2 : n ≤ 1000) : pv_E d id P pc ls (.int c :: st) cs ss g h = (g.1 < 1000 ∧ cs + 1 ≤ pv_mc id ∧ ss + n ≤ pv_ms id ∧ pv_E d id P (pc + 2) ls (.ref g.1 :: st) (cs + 1) (ss + n) (pv_newO g 101 n) (pv_newH g h)) := by
  rw [pe_go hd]
  simp only [pv_sem, pv_Fr, pv_i1, hn, true_and]
  exact propext ⟨fun q => ⟨q.1, q.2.2.2.1, q.2.2.2.2.1, q.2.2.2.2.2⟩, fun q => ⟨q.1, hc, hn2, q.2.1, q.2.2.1, q.2.2.2⟩⟩
theorem pn_new {d id pc k : Nat} {P : PvP} {ls : PvL} {st : List Value} {cs ss : Nat} {g : PvG} {h : PvH} {e : Nat × Nat × Nat × List Nat} (hd : decode (pv_cd id) pc = .ok (.new k, 3)) (he : pv_nw (pv_ow id) k = some e) : pv_E d id P pc ls st cs ss g h = (g.1 < 1000 ∧ cs + 1 ≤ pv_mc id ∧ ss + pv_N e.2.2.1 ≤ pv_ms id ∧ pv_E d id P (pc + 3) ls (.ref g.1 :: st) (cs + 1) (ss + pv_N e.2.2.1) (pv_newO g e.2.2.1 0) (pv_newH g h)) := by
  rw [pe_go hd]
  simp only [pv_sem, pv_Fr, he, true_and]
theorem pn_obj {d id pc : Nat} {P : PvP} {ls : PvL} {st : List Value} {cs ss : Nat} {g : PvG} {h : PvH} {c : Int32} {n : Nat} (hd : decode (pv_cd id) pc = .ok (.anewarray 9, 3)) (ho : pv_ow id = 0) (hc : ¬ c < 0) (hn : c.toNatClampNeg = n) (hn2 : n ≤ 1000) : pv_E d id P pc ls (.int c :: st) cs ss g h = (g.1 < 1000 ∧ cs + 1 ≤ pv_mc id ∧ ss + n ≤ pv_ms id ∧ pv_E d id P (pc + 3) ls (.ref g.1 :: st) (cs + 1) (ss + n) (pv_newO g 102 n) (pv_newH g h)) := by
  rw [pe_go hd]
  simp only [pv_sem, pv_Fr, pv_i1, hn, ho, true_and]
  exact propext ⟨fun q => ⟨q.1, q.2.2.2.1, q.2.2.2.2.1, q.2.2.2.2.2⟩, fun q => ⟨q.1, hc, hn2, q.2.1, q.2.2.1, q.2.2.2⟩⟩
theorem pn_mul {d id pc : Nat} {P : PvP} {ls : PvL} {st : List Value} {cs ss : Nat} {g : PvG} {h : PvH} {a b : Int32} {n k : Nat} (hd : decode (pv_cd id) pc = .ok (.multianewarray 21 2, 4)) (ho : pv_ow id = 3) (ha : ¬ a < 0) (hb : ¬ b < 0) (hn : a.toNatClampNeg = n) (hk : b.toNatClampNeg = k) (hk2 : k ≤ 1000) : pv_E d id P pc ls (.int b :: .int a :: st) cs ss g h = (g.1 + 1 + n < 1000 ∧ cs + (1 + n) ≤ pv_mc id ∧ ss + (n + n * k) ≤ pv_ms id ∧ pv_E d id P (pc + 4) ls (.ref g.1 :: st) (cs + (1 + n)) (ss + (n + n * k)) (pv_newM g n k) (pv_newMH g h n)) := by
  rw [pe_go hd]
  simp only [pv_sem, pv_Fr, pv_i2, hn, hk, ho, true_and]
  exact propext ⟨fun q => ⟨q.1, q.2.2.2.2.1, q.2.2.2.2.2.1, q.2.2.2.2.2.2⟩, fun q => ⟨q.1, ha, hb, hk2, q.2.1, q.2.2.1, q.2.2.2⟩⟩
theorem nO_t {g : PvG} {t n a : Nat} (h : a ≠ g.1) : pv_tg (pv_newO g t n) a = pv_tg g a := if_neg h
theorem nO_ta {g : PvG} {t n : Nat} : pv_tg (pv_newO g t n) g.1 = (t, n) := if_pos rfl
theorem nO_r {g : PvG} {t n a k : Nat} (h : a ≠ g.1) : pv_rf (pv_newO g t n) a k = pv_rf g a k := if_neg h
theorem nH_n {g : PvG} {h : PvH} {a : Nat} (ha : a ≠ g.1) : pv_newH g h a = h a := funext fun _ => if_neg ha
theorem nH_a {g : PvG} {h : PvH} : pv_newH g h g.1 = fun _ => 0 := funext fun _ => if_pos rfl
theorem nM_t {g : PvG} {n k a : Nat} (h : a < g.1) : pv_tg (pv_newM g n k) a = pv_tg g a := by
  show (if a = g.1 then _ else if _ then _ else _) = _
  rw [if_neg (by omega), if_neg (by omega)]
  rfl
theorem nM_ta {g : PvG} {n k : Nat} : pv_tg (pv_newM g n k) g.1 = (103, n) := if_pos rfl
theorem nM_tj {g : PvG} {n k j : Nat} (hj : j < n) : pv_tg (pv_newM g n k) (g.1 + 1 + j) = (100, k) := by
  show (if g.1 + 1 + j = g.1 then _ else if _ then _ else _) = _
  rw [if_neg (by omega), if_pos (by omega)]
theorem nM_r {g : PvG} {n k a j : Nat} (h : a < g.1) : pv_rf (pv_newM g n k) a j = pv_rf g a j := by
  show (if a = g.1 then _ else if _ then _ else _) = _
  rw [if_neg (by omega), if_neg (by omega)]
  rfl
theorem nM_rj {g : PvG} {n k j : Nat} (hj : j < n) : pv_rf (pv_newM g n k) g.1 j = some (g.1 + 1 + j) := by
  show (if g.1 = g.1 then (if j < n then _ else _) else _) = _
  rw [if_pos rfl, if_pos hj]
theorem nMH_n {g : PvG} {h : PvH} {n a : Nat} (ha : a < g.1) : pv_newMH g h n a = h a := funext fun _ => if_neg (by omega)
theorem nMH_a {g : PvG} {h : PvH} {n a : Nat} (h1 : g.1 ≤ a) (h2 : a < g.1 + 1 + n) : pv_newMH g h n a = fun _ => 0 := funext fun _ => if_pos ⟨h1, h2⟩
/-- an object's own arrays, laid behind it: slot, place, what it is, length; r: rows of rows -/
def AL (g0 : PvG) (h0 : PvH) (o m : Nat) (l : List (Nat × Nat × Nat × Nat)) (r : List (Nat × Nat × Nat × Nat × Nat)) (g : PvG) (h : PvH) (W : Nat → Int32) : Prop := g.1 = m ∧ o < m ∧ (∀ a, a ≤ o → pv_tg g a = pv_tg g0 a) ∧ (∀ a k, a < o → pv_rf g a k = pv_rf g0 a k) ∧ (∀ a, a < o → h a = h0 a) ∧ h o = W ∧ (∀ a, o < a → a < m → h a = fun _ => 0) ∧ (∀ e ∈ l, e.2.1 < m ∧ pv_tg g e.2.1 = (e.2.2.1, e.2.2.2) ∧ pv_rf g o e.1 = some e.2.1) ∧ (∀ e ∈ r, o < e.1 ∧ e.1 < m ∧ e.2.2.1 < m ∧ pv_tg g e.2.2.1 = (e.2.2.2.1, e.2.2.2.2) ∧ pv_rf g e.1 e.2.1 = some e.2.2.1)
theorem AL.nil {g : PvG} {h : PvH} {o : Nat} (hb : g.1 = o + 1) : AL g h o (o + 1) [] [] g h (h o) := ⟨hb, Nat.lt_succ_self o, fun _ _ => rfl, fun _ _ _ => rfl, fun _ _ => rfl, rfl, fun a h1 h2 => by omega, fun e he => (by cases he), fun e he => (by cases he)⟩
theorem AL.put {g0 : PvG} {h0 : PvH} {o m : Nat} {l : List (Nat × Nat × Nat × Nat)} {r : List (Nat × Nat × Nat × Nat × Nat)} {g : PvG} {h : PvH} {W : Nat → Int32} (A : AL g0 h0 o m l r g h W) (k : Nat) (v : Int32) : AL g0 h0 o m l r g (pv_st h o k v) (fun j => if j = k then v else W j) := by
  obtain ⟨a1, a2, a3, a4, a5, a6, a7, a8, a9⟩ := A
  refine ⟨a1, a2, a3, a4, fun a ha => by rw [st_o (by omega)]; exact a5 a ha, ?_, fun a h1 h2 => by rw [st_o (by omega)]; exact a7 a h1 h2, a8, a9⟩
  funext j
  show (if o = o ∧ j = k then v else h o j) = _
  rw [a6]
  by_cases z : j = k
  · rw [if_pos ⟨rfl, z⟩, if_pos z]
  · rw [if_neg (fun y => z y.2), if_neg z]
theorem AL.arr {g0 : PvG} {h0 : PvH} {o m : Nat} {l : List (Nat × Nat × Nat × Nat)} {r : List (Nat × Nat × Nat × Nat × Nat)} {g : PvG} {h : PvH} {W : Nat → Int32} (A : AL g0 h0 o m l r g h W) (k t n : Nat) (hk : ∀ e ∈ l, e.1 ≠ k) : AL g0 h0 o (m + 1) (l ++ [(k, m, t, n)]) r (pv_sr (pv_newO g t n) o k (some g.1)) (pv_newH g h) W := by
  obtain ⟨a1, a2, a3, a4, a5, a6, a7, a8, a9⟩ := A
  have q : ∀ a j, a < m → ¬ (a = o ∧ j = k) → pv_rf (pv_sr (pv_newO g t n) o k (some g.1)) a j = pv_rf g a j := fun a j ha hj => by rw [sr_ne hj, nO_r (by omega)]
  refine ⟨?_, by omega, fun a ha => ?_, fun a j ha => ?_, fun a ha => ?_, ?_, fun a h1 h2 => ?_, fun e he => ?_, fun e he => ?_⟩
  · show g.1 + 1 = m + 1
    omega
  · rw [sr_tg, nO_t (by omega)]; exact a3 a ha
  · rw [q a j (by omega) (by omega)]; exact a4 a j ha
  · rw [nH_n (by omega)]; exact a5 a ha
  · rw [nH_n (by omega)]; exact a6
  · by_cases z : a = g.1
    · rw [z, nH_a]
    · rw [nH_n z]; exact a7 a h1 (by omega)
  · rcases List.mem_append.mp he with y | y
    · obtain ⟨b1, b2, b3⟩ := a8 e y
      refine ⟨by omega, ?_, ?_⟩
      · rw [sr_tg, nO_t (by omega)]; exact b2
      · rw [q o _ a2 (fun z => hk e y z.2)]; exact b3
    · rw [List.mem_singleton] at y
      subst y
      refine ⟨by show m < m + 1; omega, ?_, ?_⟩
      · show pv_tg (pv_newO g t n) m = (t, n)
        rw [← a1, nO_ta]
      · show pv_rf _ o k = some m
        rw [sr_at, a1]
  · obtain ⟨b1, b2, b3, b4, b5⟩ := a9 e he
    refine ⟨b1, by omega, by omega, ?_, ?_⟩
    · rw [sr_tg, nO_t (by omega)]; exact b4
    · rw [q _ _ b2 (by omega)]; exact b5
theorem AL.mul {g0 : PvG} {h0 : PvH} {o m : Nat} {l : List (Nat × Nat × Nat × Nat)} {r : List (Nat × Nat × Nat × Nat × Nat)} {g : PvG} {h : PvH} {W : Nat → Int32} (A : AL g0 h0 o m l r g h W) (k n w : Nat) (hk : ∀ e ∈ l, e.1 ≠ k) : AL g0 h0 o (m + 1 + n) (l ++ [(k, m, 103, n)]) (r ++ (List.range n).map (fun j => (m, j, m + 1 + j, 100, w))) (pv_sr (pv_newM g n w) o k (some g.1)) (pv_newMH g h n) W := by
  obtain ⟨a1, a2, a3, a4, a5, a6, a7, a8, a9⟩ := A
  have q : ∀ a j, a < m → ¬ (a = o ∧ j = k) → pv_rf (pv_sr (pv_newM g n w) o k (some g.1)) a j = pv_rf g a j := fun a j ha hj => by rw [sr_ne hj, nM_r (by omega)]
  refine ⟨?_, by omega, fun a ha => ?_, fun a j ha => ?_, fun a ha => ?_, ?_, fun a h1 h2 => ?_, fun e he => ?_, fun e he => ?_⟩
  · show g.1 + 1 + n = m + 1 + n
    omega
  · rw [sr_tg, nM_t (by omega)]; exact a3 a ha
  · rw [q a j (by omega) (by omega)]; exact a4 a j ha
  · rw [nMH_n (by omega)]; exact a5 a ha
  · rw [nMH_n (by omega)]; exact a6
  · by_cases z : a < g.1
    · rw [nMH_n z]; exact a7 a h1 (by omega)
    · rw [nMH_a (by omega) (by omega)]
  · rcases List.mem_append.mp he with y | y
    · obtain ⟨b1, b2, b3⟩ := a8 e y
      refine ⟨by omega, ?_, ?_⟩
      · rw [sr_tg, nM_t (by omega)]; exact b2
      · rw [q o _ a2 (fun z => hk e y z.2)]; exact b3
    · rw [List.mem_singleton] at y
      subst y
      refine ⟨by show m < m + 1 + n; omega, ?_, ?_⟩
      · show pv_tg (pv_newM g n w) m = (103, n)
        rw [← a1, nM_ta]
      · show pv_rf _ o k = some m
        rw [sr_at, a1]
  · rcases List.mem_append.mp he with y | y
    · obtain ⟨b1, b2, b3, b4, b5⟩ := a9 e y
      refine ⟨b1, by omega, by omega, ?_, ?_⟩
      · rw [sr_tg, nM_t (by omega)]; exact b4
      · rw [q _ _ b2 (by omega)]; exact b5
    · obtain ⟨j, hj, rfl⟩ := List.mem_map.mp y
      have hj : j < n := List.mem_range.mp hj
      refine ⟨a2, by show m < _; omega, by show m + 1 + j < _; omega, ?_, ?_⟩
      · show pv_tg (pv_newM g n w) (m + 1 + j) = (100, w)
        rw [← a1, nM_tj hj]
      · show pv_rf _ m j = some (m + 1 + j)
        rw [sr_ne (by omega), ← a1, nM_rj hj]
theorem n0_7 {d : Nat} {P : PvP} {x0 x1 : Option Value} {st : List Value} {cs ss : Nat} {g : PvG} {h : PvH} : pv_E d 0 P 7 [x0, x1] (.int 10 :: st) cs ss g h = (g.1 < 1000 ∧ cs + 1 ≤ 41 ∧ ss + 10 ≤ 320 ∧ pv_E d 0 P 10 [x0, x1] (.ref g.1 :: st) (cs + 1) (ss + 10) (pv_newO g 102 10) (pv_newH g h)) := pn_obj (id := 0) (pc := 7) (by decide +kernel : decode (pv_cd 0) 7 = .ok (.anewarray 9, 3)) rfl (by decide) rfl (by decide)
theorem n0_26 {d : Nat} {P : PvP} {x0 x1 : Option Value} {st : List Value} {cs ss : Nat} {g : PvG} {h : PvH} : pv_E d 0 P 26 [x0, x1] st cs ss g h = (g.1 < 1000 ∧ cs + 1 ≤ 41 ∧ ss + 7 ≤ 320 ∧ pv_E d 0 P 29 [x0, x1] (.ref g.1 :: st) (cs + 1) (ss + 7) (pv_newO g 6 0) (pv_newH g h)) := pn_new (id := 0) (pc := 26) (by decide +kernel : decode (pv_cd 0) 26 = .ok (.new 9, 3)) rfl
theorem n4_6 {d : Nat} {P : PvP} {x0 : Option Value} {st : List Value} {cs ss : Nat} {g : PvG} {h : PvH} : pv_E d 4 P 6 [x0] (.int 5 :: st) cs ss g h = (g.1 < 1000 ∧ cs + 1 ≤ 1 ∧ ss + 5 ≤ 5 ∧ pv_E d 4 P 8 [x0] (.ref g.1 :: st) (cs + 1) (ss + 5) (pv_newO g 100 5) (pv_newH g h)) := pn_int (id := 4) (pc := 6) (by decide +kernel : decode (pv_cd 4) 6 = .ok (.newarray .int, 2)) (by decide) rfl (by decide)
theorem n11_6 {d : Nat} {P : PvP} {x0 : Option Value} {st : List Value} {cs ss : Nat} {g : PvG} {h : PvH} : pv_E d 11 P 6 [x0] (.int 4 :: st) cs ss g h = (g.1 < 1000 ∧ cs + 1 ≤ 14 ∧ ss + 4 ≤ 74 ∧ pv_E d 11 P 8 [x0] (.ref g.1 :: st) (cs + 1) (ss + 4) (pv_newO g 100 4) (pv_newH g h)) := pn_int (id := 11) (pc := 6) (by decide +kernel : decode (pv_cd 11) 6 = .ok (.newarray .int, 2)) (by decide) rfl (by decide)
theorem n11_13 {d : Nat} {P : PvP} {x0 : Option Value} {st : List Value} {cs ss : Nat} {g : PvG} {h : PvH} : pv_E d 11 P 13 [x0] (.int 5 :: st) cs ss g h = (g.1 < 1000 ∧ cs + 1 ≤ 14 ∧ ss + 5 ≤ 74 ∧ pv_E d 11 P 15 [x0] (.ref g.1 :: st) (cs + 1) (ss + 5) (pv_newO g 100 5) (pv_newH g h)) := pn_int (id := 11) (pc := 13) (by decide +kernel : decode (pv_cd 11) 13 = .ok (.newarray .int, 2)) (by decide) rfl (by decide)
theorem n11_20 {d : Nat} {P : PvP} {x0 : Option Value} {st : List Value} {cs ss : Nat} {g : PvG} {h : PvH} : pv_E d 11 P 20 [x0] (.int 3 :: st) cs ss g h = (g.1 < 1000 ∧ cs + 1 ≤ 14 ∧ ss + 3 ≤ 74 ∧ pv_E d 11 P 22 [x0] (.ref g.1 :: st) (cs + 1) (ss + 3) (pv_newO g 100 3) (pv_newH g h)) := pn_int (id := 11) (pc := 20) (by decide +kernel : decode (pv_cd 11) 20 = .ok (.newarray .int, 2)) (by decide) rfl (by decide)
theorem n11_28 {d : Nat} {P : PvP} {x0 : Option Value} {st : List Value} {cs ss : Nat} {g : PvG} {h : PvH} : pv_E d 11 P 28 [x0] (.int 5 :: .int 3 :: st) cs ss g h = (g.1 + 1 + 3 < 1000 ∧ cs + (1 + 3) ≤ 14 ∧ ss + (3 + 3 * 5) ≤ 74 ∧ pv_E d 11 P 32 [x0] (.ref g.1 :: st) (cs + (1 + 3)) (ss + (3 + 3 * 5)) (pv_newM g 3 5) (pv_newMH g h 3)) := pn_mul (id := 11) (pc := 28) (by decide +kernel : decode (pv_cd 11) 28 = .ok (.multianewarray 21 2, 4)) rfl (by decide) (by decide) rfl rfl (by decide)
theorem n11_38 {d : Nat} {P : PvP} {x0 : Option Value} {st : List Value} {cs ss : Nat} {g : PvG} {h : PvH} : pv_E d 11 P 38 [x0] (.int 4 :: .int 4 :: st) cs ss g h = (g.1 + 1 + 4 < 1000 ∧ cs + (1 + 4) ≤ 14 ∧ ss + (4 + 4 * 4) ≤ 74 ∧ pv_E d 11 P 42 [x0] (.ref g.1 :: st) (cs + (1 + 4)) (ss + (4 + 4 * 4)) (pv_newM g 4 4) (pv_newMH g h 4)) := pn_mul (id := 11) (pc := 38) (by decide +kernel : decode (pv_cd 11) 38 = .ok (.multianewarray 21 2, 4)) rfl (by decide) (by decide) rfl rfl (by decide)
theorem n11_48 {d : Nat} {P : PvP} {x0 : Option Value} {st : List Value} {cs ss : Nat} {g : PvG} {h : PvH} : pv_E d 11 P 48 [x0] (.int 12 :: st) cs ss g h = (g.1 < 1000 ∧ cs + 1 ≤ 14 ∧ ss + 12 ≤ 74 ∧ pv_E d 11 P 50 [x0] (.ref g.1 :: st) (cs + 1) (ss + 12) (pv_newO g 100 12) (pv_newH g h)) := pn_int (id := 11) (pc := 48) (by decide +kernel : decode (pv_cd 11) 48 = .ok (.newarray .int, 2)) (by decide) rfl (by decide)
theorem n11_56 {d : Nat} {P : PvP} {x0 : Option Value} {st : List Value} {cs ss : Nat} {g : PvG} {h : PvH} : pv_E d 11 P 56 [x0] (.int 12 :: st) cs ss g h = (g.1 < 1000 ∧ cs + 1 ≤ 14 ∧ ss + 12 ≤ 74 ∧ pv_E d 11 P 58 [x0] (.ref g.1 :: st) (cs + 1) (ss + 12) (pv_newO g 100 12) (pv_newH g h)) := pn_int (id := 11) (pc := 56) (by decide +kernel : decode (pv_cd 11) 56 = .ok (.newarray .int, 2)) (by decide) rfl (by decide)
theorem n16_5 {d : Nat} {P : PvP} {x0 : Option Value} {st : List Value} {cs ss : Nat} {g : PvG} {h : PvH} : pv_E d 16 P 5 [x0] st cs ss g h = (g.1 < 1000 ∧ cs + 1 ≤ 9 ∧ ss + 9 ≤ 67 ∧ pv_E d 16 P 8 [x0] (.ref g.1 :: st) (cs + 1) (ss + 9) (pv_newO g 7 0) (pv_newH g h)) := pn_new (id := 16) (pc := 5) (by decide +kernel : decode (pv_cd 16) 5 = .ok (.new 9, 3)) rfl
theorem n16_17 {d : Nat} {P : PvP} {x0 : Option Value} {st : List Value} {cs ss : Nat} {g : PvG} {h : PvH} : pv_E d 16 P 17 [x0] (.int 5 :: st) cs ss g h = (g.1 < 1000 ∧ cs + 1 ≤ 9 ∧ ss + 5 ≤ 67 ∧ pv_E d 16 P 19 [x0] (.ref g.1 :: st) (cs + 1) (ss + 5) (pv_newO g 100 5) (pv_newH g h)) := pn_int (id := 16) (pc := 17) (by decide +kernel : decode (pv_cd 16) 17 = .ok (.newarray .int, 2)) (by decide) rfl (by decide)
theorem n37_5 {d : Nat} {P : PvP} {x0 : Option Value} {st : List Value} {cs ss : Nat} {g : PvG} {h : PvH} : pv_E d 37 P 5 [x0] st cs ss g h = (g.1 < 1000 ∧ cs + 1 ≤ 5 ∧ ss + 7 ≤ 39 ∧ pv_E d 37 P 8 [x0] (.ref g.1 :: st) (cs + 1) (ss + 7) (pv_newO g 6 0) (pv_newH g h)) := pn_new (id := 37) (pc := 5) (by decide +kernel : decode (pv_cd 37) 5 = .ok (.new 9, 3)) rfl
theorem n37_18 {d : Nat} {P : PvP} {x0 : Option Value} {st : List Value} {cs ss : Nat} {g : PvG} {h : PvH} : pv_E d 37 P 18 [x0] (.int 8 :: st) cs ss g h = (g.1 < 1000 ∧ cs + 1 ≤ 5 ∧ ss + 8 ≤ 39 ∧ pv_E d 37 P 20 [x0] (.ref g.1 :: st) (cs + 1) (ss + 8) (pv_newO g 100 8) (pv_newH g h)) := pn_int (id := 37) (pc := 18) (by decide +kernel : decode (pv_cd 37) 18 = .ok (.newarray .int, 2)) (by decide) rfl (by decide)
theorem n38_7 {d : Nat} {P : PvP} {x0 : Option Value} {st : List Value} {cs ss : Nat} {g : PvG} {h : PvH} : pv_E d 38 P 7 [x0] (.int 8 :: st) cs ss g h = (g.1 < 1000 ∧ cs + 1 ≤ 3 ∧ ss + 8 ≤ 24 ∧ pv_E d 38 P 9 [x0] (.ref g.1 :: st) (cs + 1) (ss + 8) (pv_newO g 100 8) (pv_newH g h)) := pn_int (id := 38) (pc := 7) (by decide +kernel : decode (pv_cd 38) 7 = .ok (.newarray .int, 2)) (by decide) rfl (by decide)
theorem n38_15 {d : Nat} {P : PvP} {x0 : Option Value} {st : List Value} {cs ss : Nat} {g : PvG} {h : PvH} : pv_E d 38 P 15 [x0] (.int 8 :: st) cs ss g h = (g.1 < 1000 ∧ cs + 1 ≤ 3 ∧ ss + 8 ≤ 24 ∧ pv_E d 38 P 17 [x0] (.ref g.1 :: st) (cs + 1) (ss + 8) (pv_newO g 100 8) (pv_newH g h)) := pn_int (id := 38) (pc := 15) (by decide +kernel : decode (pv_cd 38) 15 = .ok (.newarray .int, 2)) (by decide) rfl (by decide)
theorem n38_23 {d : Nat} {P : PvP} {x0 : Option Value} {st : List Value} {cs ss : Nat} {g : PvG} {h : PvH} : pv_E d 38 P 23 [x0] (.int 8 :: st) cs ss g h = (g.1 < 1000 ∧ cs + 1 ≤ 3 ∧ ss + 8 ≤ 24 ∧ pv_E d 38 P 25 [x0] (.ref g.1 :: st) (cs + 1) (ss + 8) (pv_newO g 100 8) (pv_newH g h)) := pn_int (id := 38) (pc := 23) (by decide +kernel : decode (pv_cd 38) 23 = .ok (.newarray .int, 2)) (by decide) rfl (by decide)
theorem n51_6 {d : Nat} {P : PvP} {x0 : Option Value} {st : List Value} {cs ss : Nat} {g : PvG} {h : PvH} : pv_E d 51 P 6 [x0] (.int 5 :: st) cs ss g h = (g.1 < 1000 ∧ cs + 1 ≤ 7 ∧ ss + 5 ≤ 53 ∧ pv_E d 51 P 8 [x0] (.ref g.1 :: st) (cs + 1) (ss + 5) (pv_newO g 100 5) (pv_newH g h)) := pn_int (id := 51) (pc := 6) (by decide +kernel : decode (pv_cd 51) 6 = .ok (.newarray .int, 2)) (by decide) rfl (by decide)
theorem n51_14 {d : Nat} {P : PvP} {x0 : Option Value} {st : List Value} {cs ss : Nat} {g : PvG} {h : PvH} : pv_E d 51 P 14 [x0] (.int 8 :: st) cs ss g h = (g.1 < 1000 ∧ cs + 1 ≤ 7 ∧ ss + 8 ≤ 53 ∧ pv_E d 51 P 16 [x0] (.ref g.1 :: st) (cs + 1) (ss + 8) (pv_newO g 100 8) (pv_newH g h)) := pn_int (id := 51) (pc := 14) (by decide +kernel : decode (pv_cd 51) 14 = .ok (.newarray .int, 2)) (by decide) rfl (by decide)
theorem n51_22 {d : Nat} {P : PvP} {x0 : Option Value} {st : List Value} {cs ss : Nat} {g : PvG} {h : PvH} : pv_E d 51 P 22 [x0] (.int 8 :: st) cs ss g h = (g.1 < 1000 ∧ cs + 1 ≤ 7 ∧ ss + 8 ≤ 53 ∧ pv_E d 51 P 24 [x0] (.ref g.1 :: st) (cs + 1) (ss + 8) (pv_newO g 100 8) (pv_newH g h)) := pn_int (id := 51) (pc := 22) (by decide +kernel : decode (pv_cd 51) 22 = .ok (.newarray .int, 2)) (by decide) rfl (by decide)
theorem n51_30 {d : Nat} {P : PvP} {x0 : Option Value} {st : List Value} {cs ss : Nat} {g : PvG} {h : PvH} : pv_E d 51 P 30 [x0] (.int 8 :: st) cs ss g h = (g.1 < 1000 ∧ cs + 1 ≤ 7 ∧ ss + 8 ≤ 53 ∧ pv_E d 51 P 32 [x0] (.ref g.1 :: st) (cs + 1) (ss + 8) (pv_newO g 100 8) (pv_newH g h)) := pn_int (id := 51) (pc := 30) (by decide +kernel : decode (pv_cd 51) 30 = .ok (.newarray .int, 2)) (by decide) rfl (by decide)
theorem n51_38 {d : Nat} {P : PvP} {x0 : Option Value} {st : List Value} {cs ss : Nat} {g : PvG} {h : PvH} : pv_E d 51 P 38 [x0] (.int 8 :: st) cs ss g h = (g.1 < 1000 ∧ cs + 1 ≤ 7 ∧ ss + 8 ≤ 53 ∧ pv_E d 51 P 40 [x0] (.ref g.1 :: st) (cs + 1) (ss + 8) (pv_newO g 100 8) (pv_newH g h)) := pn_int (id := 51) (pc := 38) (by decide +kernel : decode (pv_cd 51) 38 = .ok (.newarray .int, 2)) (by decide) rfl (by decide)
theorem n51_46 {d : Nat} {P : PvP} {x0 : Option Value} {st : List Value} {cs ss : Nat} {g : PvG} {h : PvH} : pv_E d 51 P 46 [x0] (.int 8 :: st) cs ss g h = (g.1 < 1000 ∧ cs + 1 ≤ 7 ∧ ss + 8 ≤ 53 ∧ pv_E d 51 P 48 [x0] (.ref g.1 :: st) (cs + 1) (ss + 8) (pv_newO g 100 8) (pv_newH g h)) := pn_int (id := 51) (pc := 46) (by decide +kernel : decode (pv_cd 51) 46 = .ok (.newarray .int, 2)) (by decide) rfl (by decide)
theorem n51_54 {d : Nat} {P : PvP} {x0 : Option Value} {st : List Value} {cs ss : Nat} {g : PvG} {h : PvH} : pv_E d 51 P 54 [x0] (.int 8 :: st) cs ss g h = (g.1 < 1000 ∧ cs + 1 ≤ 7 ∧ ss + 8 ≤ 53 ∧ pv_E d 51 P 56 [x0] (.ref g.1 :: st) (cs + 1) (ss + 8) (pv_newO g 100 8) (pv_newH g h)) := pn_int (id := 51) (pc := 54) (by decide +kernel : decode (pv_cd 51) 54 = .ok (.newarray .int, 2)) (by decide) rfl (by decide)
theorem n54_7 {d : Nat} {P : PvP} {x0 : Option Value} {st : List Value} {cs ss : Nat} {g : PvG} {h : PvH} : pv_E d 54 P 7 [x0] (.int 8 :: st) cs ss g h = (g.1 < 1000 ∧ cs + 1 ≤ 4 ∧ ss + 8 ≤ 32 ∧ pv_E d 54 P 9 [x0] (.ref g.1 :: st) (cs + 1) (ss + 8) (pv_newO g 100 8) (pv_newH g h)) := pn_int (id := 54) (pc := 7) (by decide +kernel : decode (pv_cd 54) 7 = .ok (.newarray .int, 2)) (by decide) rfl (by decide)
theorem n54_15 {d : Nat} {P : PvP} {x0 : Option Value} {st : List Value} {cs ss : Nat} {g : PvG} {h : PvH} : pv_E d 54 P 15 [x0] (.int 8 :: st) cs ss g h = (g.1 < 1000 ∧ cs + 1 ≤ 4 ∧ ss + 8 ≤ 32 ∧ pv_E d 54 P 17 [x0] (.ref g.1 :: st) (cs + 1) (ss + 8) (pv_newO g 100 8) (pv_newH g h)) := pn_int (id := 54) (pc := 15) (by decide +kernel : decode (pv_cd 54) 15 = .ok (.newarray .int, 2)) (by decide) rfl (by decide)
theorem n54_23 {d : Nat} {P : PvP} {x0 : Option Value} {st : List Value} {cs ss : Nat} {g : PvG} {h : PvH} : pv_E d 54 P 23 [x0] (.int 8 :: st) cs ss g h = (g.1 < 1000 ∧ cs + 1 ≤ 4 ∧ ss + 8 ≤ 32 ∧ pv_E d 54 P 25 [x0] (.ref g.1 :: st) (cs + 1) (ss + 8) (pv_newO g 100 8) (pv_newH g h)) := pn_int (id := 54) (pc := 23) (by decide +kernel : decode (pv_cd 54) 23 = .ok (.newarray .int, 2)) (by decide) rfl (by decide)
theorem n54_31 {d : Nat} {P : PvP} {x0 : Option Value} {st : List Value} {cs ss : Nat} {g : PvG} {h : PvH} : pv_E d 54 P 31 [x0] (.int 8 :: st) cs ss g h = (g.1 < 1000 ∧ cs + 1 ≤ 4 ∧ ss + 8 ≤ 32 ∧ pv_E d 54 P 33 [x0] (.ref g.1 :: st) (cs + 1) (ss + 8) (pv_newO g 100 8) (pv_newH g h)) := pn_int (id := 54) (pc := 31) (by decide +kernel : decode (pv_cd 54) 31 = .ok (.newarray .int, 2)) (by decide) rfl (by decide)
theorem n58_7 {d : Nat} {P : PvP} {x0 : Option Value} {st : List Value} {cs ss : Nat} {g : PvG} {h : PvH} : pv_E d 58 P 7 [x0] (.int 76 :: st) cs ss g h = (g.1 < 1000 ∧ cs + 1 ≤ 101 ∧ ss + 76 ≤ 797 ∧ pv_E d 58 P 9 [x0] (.ref g.1 :: st) (cs + 1) (ss + 76) (pv_newO g 100 76) (pv_newH g h)) := pn_int (id := 58) (pc := 7) (by decide +kernel : decode (pv_cd 58) 7 = .ok (.newarray .int, 2)) (by decide) rfl (by decide)
theorem n58_13 {d : Nat} {P : PvP} {x0 : Option Value} {st : List Value} {cs ss : Nat} {g : PvG} {h : PvH} : pv_E d 58 P 13 [x0] st cs ss g h = (g.1 < 1000 ∧ cs + 1 ≤ 101 ∧ ss + 10 ≤ 797 ∧ pv_E d 58 P 16 [x0] (.ref g.1 :: st) (cs + 1) (ss + 10) (pv_newO g 4 0) (pv_newH g h)) := pn_new (id := 58) (pc := 13) (by decide +kernel : decode (pv_cd 58) 13 = .ok (.new 13, 3)) rfl
theorem n58_24 {d : Nat} {P : PvP} {x0 : Option Value} {st : List Value} {cs ss : Nat} {g : PvG} {h : PvH} : pv_E d 58 P 24 [x0] st cs ss g h = (g.1 < 1000 ∧ cs + 1 ≤ 101 ∧ ss + 9 ≤ 797 ∧ pv_E d 58 P 27 [x0] (.ref g.1 :: st) (cs + 1) (ss + 9) (pv_newO g 7 0) (pv_newH g h)) := pn_new (id := 58) (pc := 24) (by decide +kernel : decode (pv_cd 58) 24 = .ok (.new 20, 3)) rfl
theorem n58_35 {d : Nat} {P : PvP} {x0 : Option Value} {st : List Value} {cs ss : Nat} {g : PvG} {h : PvH} : pv_E d 58 P 35 [x0] st cs ss g h = (g.1 < 1000 ∧ cs + 1 ≤ 101 ∧ ss + 7 ≤ 797 ∧ pv_E d 58 P 38 [x0] (.ref g.1 :: st) (cs + 1) (ss + 7) (pv_newO g 6 0) (pv_newH g h)) := pn_new (id := 58) (pc := 35) (by decide +kernel : decode (pv_cd 58) 35 = .ok (.new 27, 3)) rfl
theorem n58_48 {d : Nat} {P : PvP} {x0 : Option Value} {st : List Value} {cs ss : Nat} {g : PvG} {h : PvH} : pv_E d 58 P 48 [x0] (.int 8 :: st) cs ss g h = (g.1 < 1000 ∧ cs + 1 ≤ 101 ∧ ss + 8 ≤ 797 ∧ pv_E d 58 P 50 [x0] (.ref g.1 :: st) (cs + 1) (ss + 8) (pv_newO g 100 8) (pv_newH g h)) := pn_int (id := 58) (pc := 48) (by decide +kernel : decode (pv_cd 58) 48 = .ok (.newarray .int, 2)) (by decide) rfl (by decide)
theorem n58_54 {d : Nat} {P : PvP} {x0 : Option Value} {st : List Value} {cs ss : Nat} {g : PvG} {h : PvH} : pv_E d 58 P 54 [x0] st cs ss g h = (g.1 < 1000 ∧ cs + 1 ≤ 101 ∧ ss + 2 ≤ 797 ∧ pv_E d 58 P 57 [x0] (.ref g.1 :: st) (cs + 1) (ss + 2) (pv_newO g 0 0) (pv_newH g h)) := pn_new (id := 58) (pc := 54) (by decide +kernel : decode (pv_cd 58) 54 = .ok (.new 37, 3)) rfl
theorem n58_65 {d : Nat} {P : PvP} {x0 : Option Value} {st : List Value} {cs ss : Nat} {g : PvG} {h : PvH} : pv_E d 58 P 65 [x0] st cs ss g h = (g.1 < 1000 ∧ cs + 1 ≤ 101 ∧ ss + 3 ≤ 797 ∧ pv_E d 58 P 68 [x0] (.ref g.1 :: st) (cs + 1) (ss + 3) (pv_newO g 5 0) (pv_newH g h)) := pn_new (id := 58) (pc := 65) (by decide +kernel : decode (pv_cd 58) 65 = .ok (.new 44, 3)) rfl
theorem n58_76 {d : Nat} {P : PvP} {x0 : Option Value} {st : List Value} {cs ss : Nat} {g : PvG} {h : PvH} : pv_E d 58 P 76 [x0] st cs ss g h = (g.1 < 1000 ∧ cs + 1 ≤ 101 ∧ ss + 3 ≤ 797 ∧ pv_E d 58 P 79 [x0] (.ref g.1 :: st) (cs + 1) (ss + 3) (pv_newO g 5 0) (pv_newH g h)) := pn_new (id := 58) (pc := 76) (by decide +kernel : decode (pv_cd 58) 76 = .ok (.new 44, 3)) rfl
theorem n58_87 {d : Nat} {P : PvP} {x0 : Option Value} {st : List Value} {cs ss : Nat} {g : PvG} {h : PvH} : pv_E d 58 P 87 [x0] st cs ss g h = (g.1 < 1000 ∧ cs + 1 ≤ 101 ∧ ss + 5 ≤ 797 ∧ pv_E d 58 P 90 [x0] (.ref g.1 :: st) (cs + 1) (ss + 5) (pv_newO g 8 0) (pv_newH g h)) := pn_new (id := 58) (pc := 87) (by decide +kernel : decode (pv_cd 58) 87 = .ok (.new 54, 3)) rfl
theorem n58_98 {d : Nat} {P : PvP} {x0 : Option Value} {st : List Value} {cs ss : Nat} {g : PvG} {h : PvH} : pv_E d 58 P 98 [x0] st cs ss g h = (g.1 < 1000 ∧ cs + 1 ≤ 101 ∧ ss + 13 ≤ 797 ∧ pv_E d 58 P 101 [x0] (.ref g.1 :: st) (cs + 1) (ss + 13) (pv_newO g 3 0) (pv_newH g h)) := pn_new (id := 58) (pc := 98) (by decide +kernel : decode (pv_cd 58) 98 = .ok (.new 61, 3)) rfl
theorem n58_109 {d : Nat} {P : PvP} {x0 : Option Value} {st : List Value} {cs ss : Nat} {g : PvG} {h : PvH} : pv_E d 58 P 109 [x0] st cs ss g h = (g.1 < 1000 ∧ cs + 1 ≤ 101 ∧ ss + 5 ≤ 797 ∧ pv_E d 58 P 112 [x0] (.ref g.1 :: st) (cs + 1) (ss + 5) (pv_newO g 1 0) (pv_newH g h)) := pn_new (id := 58) (pc := 109) (by decide +kernel : decode (pv_cd 58) 109 = .ok (.new 68, 3)) rfl
theorem n58_120 {d : Nat} {P : PvP} {x0 : Option Value} {st : List Value} {cs ss : Nat} {g : PvG} {h : PvH} : pv_E d 58 P 120 [x0] st cs ss g h = (g.1 < 1000 ∧ cs + 1 ≤ 101 ∧ ss + 3 ≤ 797 ∧ pv_E d 58 P 123 [x0] (.ref g.1 :: st) (cs + 1) (ss + 3) (pv_newO g 2 0) (pv_newH g h)) := pn_new (id := 58) (pc := 120) (by decide +kernel : decode (pv_cd 58) 120 = .ok (.new 75, 3)) rfl
theorem n99_7 {d : Nat} {P : PvP} {x0 : Option Value} {st : List Value} {cs ss : Nat} {g : PvG} {h : PvH} : pv_E d 99 P 7 [x0] (.int 76 :: st) cs ss g h = (g.1 < 1000 ∧ cs + 1 ≤ 24 ∧ ss + 76 ≤ 874 ∧ pv_E d 99 P 9 [x0] (.ref g.1 :: st) (cs + 1) (ss + 76) (pv_newO g 100 76) (pv_newH g h)) := pn_int (id := 99) (pc := 7) (by decide +kernel : decode (pv_cd 99) 7 = .ok (.newarray .int, 2)) (by decide) rfl (by decide)
theorem n99_19 {d : Nat} {P : PvP} {x0 : Option Value} {st : List Value} {cs ss : Nat} {g : PvG} {h : PvH} : pv_E d 99 P 19 [x0] (.int 5 :: st) cs ss g h = (g.1 < 1000 ∧ cs + 1 ≤ 24 ∧ ss + 5 ≤ 874 ∧ pv_E d 99 P 21 [x0] (.ref g.1 :: st) (cs + 1) (ss + 5) (pv_newO g 100 5) (pv_newH g h)) := pn_int (id := 99) (pc := 19) (by decide +kernel : decode (pv_cd 99) 19 = .ok (.newarray .int, 2)) (by decide) rfl (by decide)
theorem n99_27 {d : Nat} {P : PvP} {x0 : Option Value} {st : List Value} {cs ss : Nat} {g : PvG} {h : PvH} : pv_E d 99 P 27 [x0] (.int 8 :: st) cs ss g h = (g.1 < 1000 ∧ cs + 1 ≤ 24 ∧ ss + 8 ≤ 874 ∧ pv_E d 99 P 29 [x0] (.ref g.1 :: st) (cs + 1) (ss + 8) (pv_newO g 100 8) (pv_newH g h)) := pn_int (id := 99) (pc := 27) (by decide +kernel : decode (pv_cd 99) 27 = .ok (.newarray .int, 2)) (by decide) rfl (by decide)
theorem n99_35 {d : Nat} {P : PvP} {x0 : Option Value} {st : List Value} {cs ss : Nat} {g : PvG} {h : PvH} : pv_E d 99 P 35 [x0] (.int 8 :: st) cs ss g h = (g.1 < 1000 ∧ cs + 1 ≤ 24 ∧ ss + 8 ≤ 874 ∧ pv_E d 99 P 37 [x0] (.ref g.1 :: st) (cs + 1) (ss + 8) (pv_newO g 100 8) (pv_newH g h)) := pn_int (id := 99) (pc := 35) (by decide +kernel : decode (pv_cd 99) 35 = .ok (.newarray .int, 2)) (by decide) rfl (by decide)
theorem n99_43 {d : Nat} {P : PvP} {x0 : Option Value} {st : List Value} {cs ss : Nat} {g : PvG} {h : PvH} : pv_E d 99 P 43 [x0] (.int 8 :: st) cs ss g h = (g.1 < 1000 ∧ cs + 1 ≤ 24 ∧ ss + 8 ≤ 874 ∧ pv_E d 99 P 45 [x0] (.ref g.1 :: st) (cs + 1) (ss + 8) (pv_newO g 100 8) (pv_newH g h)) := pn_int (id := 99) (pc := 43) (by decide +kernel : decode (pv_cd 99) 43 = .ok (.newarray .int, 2)) (by decide) rfl (by decide)
theorem n99_51 {d : Nat} {P : PvP} {x0 : Option Value} {st : List Value} {cs ss : Nat} {g : PvG} {h : PvH} : pv_E d 99 P 51 [x0] (.int 8 :: st) cs ss g h = (g.1 < 1000 ∧ cs + 1 ≤ 24 ∧ ss + 8 ≤ 874 ∧ pv_E d 99 P 53 [x0] (.ref g.1 :: st) (cs + 1) (ss + 8) (pv_newO g 100 8) (pv_newH g h)) := pn_int (id := 99) (pc := 51) (by decide +kernel : decode (pv_cd 99) 51 = .ok (.newarray .int, 2)) (by decide) rfl (by decide)
theorem n99_59 {d : Nat} {P : PvP} {x0 : Option Value} {st : List Value} {cs ss : Nat} {g : PvG} {h : PvH} : pv_E d 99 P 59 [x0] (.int 8 :: st) cs ss g h = (g.1 < 1000 ∧ cs + 1 ≤ 24 ∧ ss + 8 ≤ 874 ∧ pv_E d 99 P 61 [x0] (.ref g.1 :: st) (cs + 1) (ss + 8) (pv_newO g 100 8) (pv_newH g h)) := pn_int (id := 99) (pc := 59) (by decide +kernel : decode (pv_cd 99) 59 = .ok (.newarray .int, 2)) (by decide) rfl (by decide)
theorem n99_67 {d : Nat} {P : PvP} {x0 : Option Value} {st : List Value} {cs ss : Nat} {g : PvG} {h : PvH} : pv_E d 99 P 67 [x0] (.int 8 :: st) cs ss g h = (g.1 < 1000 ∧ cs + 1 ≤ 24 ∧ ss + 8 ≤ 874 ∧ pv_E d 99 P 69 [x0] (.ref g.1 :: st) (cs + 1) (ss + 8) (pv_newO g 101 8) (pv_newH g h)) := pn_bool (id := 99) (pc := 67) (by decide +kernel : decode (pv_cd 99) 67 = .ok (.newarray .boolean, 2)) (by decide) rfl (by decide)
theorem n99_75 {d : Nat} {P : PvP} {x0 : Option Value} {st : List Value} {cs ss : Nat} {g : PvG} {h : PvH} : pv_E d 99 P 75 [x0] (.int 8 :: st) cs ss g h = (g.1 < 1000 ∧ cs + 1 ≤ 24 ∧ ss + 8 ≤ 874 ∧ pv_E d 99 P 77 [x0] (.ref g.1 :: st) (cs + 1) (ss + 8) (pv_newO g 100 8) (pv_newH g h)) := pn_int (id := 99) (pc := 75) (by decide +kernel : decode (pv_cd 99) 75 = .ok (.newarray .int, 2)) (by decide) rfl (by decide)
theorem n99_83 {d : Nat} {P : PvP} {x0 : Option Value} {st : List Value} {cs ss : Nat} {g : PvG} {h : PvH} : pv_E d 99 P 83 [x0] (.int 64 :: st) cs ss g h = (g.1 < 1000 ∧ cs + 1 ≤ 24 ∧ ss + 64 ≤ 874 ∧ pv_E d 99 P 85 [x0] (.ref g.1 :: st) (cs + 1) (ss + 64) (pv_newO g 101 64) (pv_newH g h)) := pn_bool (id := 99) (pc := 83) (by decide +kernel : decode (pv_cd 99) 83 = .ok (.newarray .boolean, 2)) (by decide) rfl (by decide)
theorem n99_102 {d : Nat} {P : PvP} {x0 : Option Value} {st : List Value} {cs ss : Nat} {g : PvG} {h : PvH} : pv_E d 99 P 102 [x0] (.int 5 :: st) cs ss g h = (g.1 < 1000 ∧ cs + 1 ≤ 24 ∧ ss + 5 ≤ 874 ∧ pv_E d 99 P 104 [x0] (.ref g.1 :: st) (cs + 1) (ss + 5) (pv_newO g 100 5) (pv_newH g h)) := pn_int (id := 99) (pc := 102) (by decide +kernel : decode (pv_cd 99) 102 = .ok (.newarray .int, 2)) (by decide) rfl (by decide)
theorem n99_109 {d : Nat} {P : PvP} {x0 : Option Value} {st : List Value} {cs ss : Nat} {g : PvG} {h : PvH} : pv_E d 99 P 109 [x0] (.int 5 :: st) cs ss g h = (g.1 < 1000 ∧ cs + 1 ≤ 24 ∧ ss + 5 ≤ 874 ∧ pv_E d 99 P 111 [x0] (.ref g.1 :: st) (cs + 1) (ss + 5) (pv_newO g 100 5) (pv_newH g h)) := pn_int (id := 99) (pc := 109) (by decide +kernel : decode (pv_cd 99) 109 = .ok (.newarray .int, 2)) (by decide) rfl (by decide)
theorem n99_117 {d : Nat} {P : PvP} {x0 : Option Value} {st : List Value} {cs ss : Nat} {g : PvG} {h : PvH} : pv_E d 99 P 117 [x0] (.int 40 :: st) cs ss g h = (g.1 < 1000 ∧ cs + 1 ≤ 24 ∧ ss + 40 ≤ 874 ∧ pv_E d 99 P 119 [x0] (.ref g.1 :: st) (cs + 1) (ss + 40) (pv_newO g 100 40) (pv_newH g h)) := pn_int (id := 99) (pc := 117) (by decide +kernel : decode (pv_cd 99) 117 = .ok (.newarray .int, 2)) (by decide) rfl (by decide)
theorem n99_125 {d : Nat} {P : PvP} {x0 : Option Value} {st : List Value} {cs ss : Nat} {g : PvG} {h : PvH} : pv_E d 99 P 125 [x0] (.int 64 :: st) cs ss g h = (g.1 < 1000 ∧ cs + 1 ≤ 24 ∧ ss + 64 ≤ 874 ∧ pv_E d 99 P 127 [x0] (.ref g.1 :: st) (cs + 1) (ss + 64) (pv_newO g 101 64) (pv_newH g h)) := pn_bool (id := 99) (pc := 125) (by decide +kernel : decode (pv_cd 99) 125 = .ok (.newarray .boolean, 2)) (by decide) rfl (by decide)
theorem n99_134 {d : Nat} {P : PvP} {x0 : Option Value} {st : List Value} {cs ss : Nat} {g : PvG} {h : PvH} : pv_E d 99 P 134 [x0] (.int 350 :: st) cs ss g h = (g.1 < 1000 ∧ cs + 1 ≤ 24 ∧ ss + 350 ≤ 874 ∧ pv_E d 99 P 136 [x0] (.ref g.1 :: st) (cs + 1) (ss + 350) (pv_newO g 100 350) (pv_newH g h)) := pn_int (id := 99) (pc := 134) (by decide +kernel : decode (pv_cd 99) 134 = .ok (.newarray .int, 2)) (by decide) rfl (by decide)
theorem n99_142 {d : Nat} {P : PvP} {x0 : Option Value} {st : List Value} {cs ss : Nat} {g : PvG} {h : PvH} : pv_E d 99 P 142 [x0] (.int 86 :: st) cs ss g h = (g.1 < 1000 ∧ cs + 1 ≤ 24 ∧ ss + 86 ≤ 874 ∧ pv_E d 99 P 144 [x0] (.ref g.1 :: st) (cs + 1) (ss + 86) (pv_newO g 100 86) (pv_newH g h)) := pn_int (id := 99) (pc := 142) (by decide +kernel : decode (pv_cd 99) 142 = .ok (.newarray .int, 2)) (by decide) rfl (by decide)
theorem n99_149 {d : Nat} {P : PvP} {x0 : Option Value} {st : List Value} {cs ss : Nat} {g : PvG} {h : PvH} : pv_E d 99 P 149 [x0] (.int 2 :: st) cs ss g h = (g.1 < 1000 ∧ cs + 1 ≤ 24 ∧ ss + 2 ≤ 874 ∧ pv_E d 99 P 151 [x0] (.ref g.1 :: st) (cs + 1) (ss + 2) (pv_newO g 101 2) (pv_newH g h)) := pn_bool (id := 99) (pc := 149) (by decide +kernel : decode (pv_cd 99) 149 = .ok (.newarray .boolean, 2)) (by decide) rfl (by decide)
theorem n99_157 {d : Nat} {P : PvP} {x0 : Option Value} {st : List Value} {cs ss : Nat} {g : PvG} {h : PvH} : pv_E d 99 P 157 [x0] (.int 32 :: st) cs ss g h = (g.1 < 1000 ∧ cs + 1 ≤ 24 ∧ ss + 32 ≤ 874 ∧ pv_E d 99 P 159 [x0] (.ref g.1 :: st) (cs + 1) (ss + 32) (pv_newO g 100 32) (pv_newH g h)) := pn_int (id := 99) (pc := 157) (by decide +kernel : decode (pv_cd 99) 157 = .ok (.newarray .int, 2)) (by decide) rfl (by decide)
theorem n99_165 {d : Nat} {P : PvP} {x0 : Option Value} {st : List Value} {cs ss : Nat} {g : PvG} {h : PvH} : pv_E d 99 P 165 [x0] (.int 32 :: st) cs ss g h = (g.1 < 1000 ∧ cs + 1 ≤ 24 ∧ ss + 32 ≤ 874 ∧ pv_E d 99 P 167 [x0] (.ref g.1 :: st) (cs + 1) (ss + 32) (pv_newO g 100 32) (pv_newH g h)) := pn_int (id := 99) (pc := 165) (by decide +kernel : decode (pv_cd 99) 165 = .ok (.newarray .int, 2)) (by decide) rfl (by decide)
theorem n99_173 {d : Nat} {P : PvP} {x0 : Option Value} {st : List Value} {cs ss : Nat} {g : PvG} {h : PvH} : pv_E d 99 P 173 [x0] (.int 32 :: st) cs ss g h = (g.1 < 1000 ∧ cs + 1 ≤ 24 ∧ ss + 32 ≤ 874 ∧ pv_E d 99 P 175 [x0] (.ref g.1 :: st) (cs + 1) (ss + 32) (pv_newO g 101 32) (pv_newH g h)) := pn_bool (id := 99) (pc := 173) (by decide +kernel : decode (pv_cd 99) 173 = .ok (.newarray .boolean, 2)) (by decide) rfl (by decide)
theorem n99_180 {d : Nat} {P : PvP} {x0 : Option Value} {st : List Value} {cs ss : Nat} {g : PvG} {h : PvH} : pv_E d 99 P 180 [x0] (.int 4 :: st) cs ss g h = (g.1 < 1000 ∧ cs + 1 ≤ 24 ∧ ss + 4 ≤ 874 ∧ pv_E d 99 P 182 [x0] (.ref g.1 :: st) (cs + 1) (ss + 4) (pv_newO g 100 4) (pv_newH g h)) := pn_int (id := 99) (pc := 180) (by decide +kernel : decode (pv_cd 99) 180 = .ok (.newarray .int, 2)) (by decide) rfl (by decide)
theorem n99_188 {d : Nat} {P : PvP} {x0 : Option Value} {st : List Value} {cs ss : Nat} {g : PvG} {h : PvH} : pv_E d 99 P 188 [x0] (.int 8 :: st) cs ss g h = (g.1 < 1000 ∧ cs + 1 ≤ 24 ∧ ss + 8 ≤ 874 ∧ pv_E d 99 P 190 [x0] (.ref g.1 :: st) (cs + 1) (ss + 8) (pv_newO g 100 8) (pv_newH g h)) := pn_int (id := 99) (pc := 188) (by decide +kernel : decode (pv_cd 99) 188 = .ok (.newarray .int, 2)) (by decide) rfl (by decide)
theorem n99_196 {d : Nat} {P : PvP} {x0 : Option Value} {st : List Value} {cs ss : Nat} {g : PvG} {h : PvH} : pv_E d 99 P 196 [x0] (.int 8 :: st) cs ss g h = (g.1 < 1000 ∧ cs + 1 ≤ 24 ∧ ss + 8 ≤ 874 ∧ pv_E d 99 P 198 [x0] (.ref g.1 :: st) (cs + 1) (ss + 8) (pv_newO g 100 8) (pv_newH g h)) := pn_int (id := 99) (pc := 196) (by decide +kernel : decode (pv_cd 99) 196 = .ok (.newarray .int, 2)) (by decide) rfl (by decide)
theorem n99_203 {d : Nat} {P : PvP} {x0 : Option Value} {st : List Value} {cs ss : Nat} {g : PvG} {h : PvH} : pv_E d 99 P 203 [x0] (.int 5 :: st) cs ss g h = (g.1 < 1000 ∧ cs + 1 ≤ 24 ∧ ss + 5 ≤ 874 ∧ pv_E d 99 P 205 [x0] (.ref g.1 :: st) (cs + 1) (ss + 5) (pv_newO g 100 5) (pv_newH g h)) := pn_int (id := 99) (pc := 203) (by decide +kernel : decode (pv_cd 99) 203 = .ok (.newarray .int, 2)) (by decide) rfl (by decide)
set_option maxHeartbeats 8000000 in
theorem c38 {d : Nat} {P : PvP} {g : PvG} {h : PvH} {o : Nat} (hb : g.1 = o + 1) (ho : o < 800) (T : (pv_tg g o).1 = 6) (hP : ∀ g' h', AL g h o (o + 4) [(0, o + 1, 100, 8), (1, o + 2, 100, 8), (2, o + 3, 100, 8)] [] g' h' (fun j => if j = 6 then 9 else (fun j => if j = 5 then 9 else (h o) j) j) → P none g' h') : pv_run (d + 1) 38 [.ref o] g h P := by
  rw [e38, z38_0, z38_1 (by simp [pv_cat])]
  have A0 := AL.nil (h := h) hb
  have T0 : (pv_tg g o).1 = 6 := T
  have b0 : g.1 = o + 1 := A0.1
  rw [z38_4, z38_5, n38_7]
  refine ⟨by omega, by decide, by decide, ?_⟩
  rw [z38_9]
  refine ⟨by rw [nO_t (by omega)]; exact T0, ?_⟩
  have A1 : AL g h o (o + 2) [(0, o + 1, 100, 8)] [] (pv_sr (pv_newO g 100 8) o 0 (some g.1)) (pv_newH g h) (h o) := A0.arr 0 100 8 (by simp)
  have T1 : (pv_tg (pv_sr (pv_newO g 100 8) o 0 (some g.1)) o).1 = 6 := by rw [sr_tg, nO_t (by omega)]; exact T0
  generalize pv_sr (pv_newO g 100 8) o 0 (some g.1) = g1 at A1 T1 ⊢
  generalize pv_newH g h = h1 at A1 ⊢
  clear A0 T0 b0
  show pv_E d 38 P 12 _ [] 1 8 _ _
  have b1 : g1.1 = o + 2 := A1.1
  rw [z38_12, z38_13, n38_15]
  refine ⟨by omega, by decide, by decide, ?_⟩
  rw [z38_17]
  refine ⟨by rw [nO_t (by omega)]; exact T1, ?_⟩
  have A2 : AL g h o (o + 3) [(0, o + 1, 100, 8), (1, o + 2, 100, 8)] [] (pv_sr (pv_newO g1 100 8) o 1 (some g1.1)) (pv_newH g1 h1) (h o) := A1.arr 1 100 8 (by simp)
  have T2 : (pv_tg (pv_sr (pv_newO g1 100 8) o 1 (some g1.1)) o).1 = 6 := by rw [sr_tg, nO_t (by omega)]; exact T1
  generalize pv_sr (pv_newO g1 100 8) o 1 (some g1.1) = g2 at A2 T2 ⊢
  generalize pv_newH g1 h1 = h2 at A2 ⊢
  clear A1 T1 b1
  show pv_E d 38 P 20 _ [] 2 16 _ _
  have b2 : g2.1 = o + 3 := A2.1
  rw [z38_20, z38_21, n38_23]
  refine ⟨by omega, by decide, by decide, ?_⟩
  rw [z38_25]
  refine ⟨by rw [nO_t (by omega)]; exact T2, ?_⟩
  have A3 : AL g h o (o + 4) [(0, o + 1, 100, 8), (1, o + 2, 100, 8), (2, o + 3, 100, 8)] [] (pv_sr (pv_newO g2 100 8) o 2 (some g2.1)) (pv_newH g2 h2) (h o) := A2.arr 2 100 8 (by simp)
  have T3 : (pv_tg (pv_sr (pv_newO g2 100 8) o 2 (some g2.1)) o).1 = 6 := by rw [sr_tg, nO_t (by omega)]; exact T2
  generalize pv_sr (pv_newO g2 100 8) o 2 (some g2.1) = g3 at A3 T3 ⊢
  generalize pv_newH g2 h2 = h3 at A3 ⊢
  clear A2 T2 b2
  show pv_E d 38 P 28 _ [] 3 24 _ _
  rw [z38_28, z38_29, z38_31]
  refine ⟨T3, ?_⟩
  have A4 : AL g h o (o + 4) [(0, o + 1, 100, 8), (1, o + 2, 100, 8), (2, o + 3, 100, 8)] [] g3 (pv_st h3 o 5 9) (fun j => if j = 5 then 9 else (h o) j) := A3.put 5 9
  have T4 := T3
  generalize pv_st h3 o 5 9 = h4 at A4 ⊢
  clear A3 T3
  rw [z38_34, z38_35, z38_37]
  refine ⟨T4, ?_⟩
  have A5 : AL g h o (o + 4) [(0, o + 1, 100, 8), (1, o + 2, 100, 8), (2, o + 3, 100, 8)] [] g3 (pv_st h4 o 6 9) (fun j => if j = 6 then 9 else (fun j => if j = 5 then 9 else (h o) j) j) := A4.put 6 9
  have T5 := T4
  generalize pv_st h4 o 6 9 = h5 at A5 ⊢
  clear A4 T4
  rw [z38_40]
  exact hP _ _ A5
set_option maxHeartbeats 8000000 in
theorem c51 {d : Nat} {P : PvP} {g : PvG} {h : PvH} {o : Nat} (hb : g.1 = o + 1) (ho : o < 800) (T : (pv_tg g o).1 = 7) (hP : ∀ g' h', AL g h o (o + 8) [(1, o + 1, 100, 5), (3, o + 2, 100, 8), (4, o + 3, 100, 8), (5, o + 4, 100, 8), (6, o + 5, 100, 8), (7, o + 6, 100, 8), (8, o + 7, 100, 8)] [] g' h' (h o) → P none g' h') : pv_run (d + 1) 51 [.ref o] g h P := by
  rw [e51, z51_0, z51_1 (by simp [pv_cat])]
  have A0 := AL.nil (h := h) hb
  have T0 : (pv_tg g o).1 = 7 := T
  have b0 : g.1 = o + 1 := A0.1
  rw [z51_4, z51_5, n51_6]
  refine ⟨by omega, by decide, by decide, ?_⟩
  rw [z51_8]
  refine ⟨by rw [nO_t (by omega)]; exact T0, ?_⟩
  have A1 : AL g h o (o + 2) [(1, o + 1, 100, 5)] [] (pv_sr (pv_newO g 100 5) o 1 (some g.1)) (pv_newH g h) (h o) := A0.arr 1 100 5 (by simp)
  have T1 : (pv_tg (pv_sr (pv_newO g 100 5) o 1 (some g.1)) o).1 = 7 := by rw [sr_tg, nO_t (by omega)]; exact T0
  generalize pv_sr (pv_newO g 100 5) o 1 (some g.1) = g1 at A1 T1 ⊢
  generalize pv_newH g h = h1 at A1 ⊢
  clear A0 T0 b0
  show pv_E d 51 P 11 _ [] 1 5 _ _
  have b1 : g1.1 = o + 2 := A1.1
  rw [z51_11, z51_12, n51_14]
  refine ⟨by omega, by decide, by decide, ?_⟩
  rw [z51_16]
  refine ⟨by rw [nO_t (by omega)]; exact T1, ?_⟩
  have A2 : AL g h o (o + 3) [(1, o + 1, 100, 5), (3, o + 2, 100, 8)] [] (pv_sr (pv_newO g1 100 8) o 3 (some g1.1)) (pv_newH g1 h1) (h o) := A1.arr 3 100 8 (by simp)
  have T2 : (pv_tg (pv_sr (pv_newO g1 100 8) o 3 (some g1.1)) o).1 = 7 := by rw [sr_tg, nO_t (by omega)]; exact T1
  generalize pv_sr (pv_newO g1 100 8) o 3 (some g1.1) = g2 at A2 T2 ⊢
  generalize pv_newH g1 h1 = h2 at A2 ⊢
  clear A1 T1 b1
  show pv_E d 51 P 19 _ [] 2 13 _ _
  have b2 : g2.1 = o + 3 := A2.1
  rw [z51_19, z51_20, n51_22]
  refine ⟨by omega, by decide, by decide, ?_⟩
  rw [z51_24]
  refine ⟨by rw [nO_t (by omega)]; exact T2, ?_⟩
  have A3 : AL g h o (o + 4) [(1, o + 1, 100, 5), (3, o + 2, 100, 8), (4, o + 3, 100, 8)] [] (pv_sr (pv_newO g2 100 8) o 4 (some g2.1)) (pv_newH g2 h2) (h o) := A2.arr 4 100 8 (by simp)
  have T3 : (pv_tg (pv_sr (pv_newO g2 100 8) o 4 (some g2.1)) o).1 = 7 := by rw [sr_tg, nO_t (by omega)]; exact T2
  generalize pv_sr (pv_newO g2 100 8) o 4 (some g2.1) = g3 at A3 T3 ⊢
  generalize pv_newH g2 h2 = h3 at A3 ⊢
  clear A2 T2 b2
  show pv_E d 51 P 27 _ [] 3 21 _ _
  have b3 : g3.1 = o + 4 := A3.1
  rw [z51_27, z51_28, n51_30]
  refine ⟨by omega, by decide, by decide, ?_⟩
  rw [z51_32]
  refine ⟨by rw [nO_t (by omega)]; exact T3, ?_⟩
  have A4 : AL g h o (o + 5) [(1, o + 1, 100, 5), (3, o + 2, 100, 8), (4, o + 3, 100, 8), (5, o + 4, 100, 8)] [] (pv_sr (pv_newO g3 100 8) o 5 (some g3.1)) (pv_newH g3 h3) (h o) := A3.arr 5 100 8 (by simp)
  have T4 : (pv_tg (pv_sr (pv_newO g3 100 8) o 5 (some g3.1)) o).1 = 7 := by rw [sr_tg, nO_t (by omega)]; exact T3
  generalize pv_sr (pv_newO g3 100 8) o 5 (some g3.1) = g4 at A4 T4 ⊢
  generalize pv_newH g3 h3 = h4 at A4 ⊢
  clear A3 T3 b3
  show pv_E d 51 P 35 _ [] 4 29 _ _
  have b4 : g4.1 = o + 5 := A4.1
  rw [z51_35, z51_36, n51_38]
  refine ⟨by omega, by decide, by decide, ?_⟩
  rw [z51_40]
  refine ⟨by rw [nO_t (by omega)]; exact T4, ?_⟩
  have A5 : AL g h o (o + 6) [(1, o + 1, 100, 5), (3, o + 2, 100, 8), (4, o + 3, 100, 8), (5, o + 4, 100, 8), (6, o + 5, 100, 8)] [] (pv_sr (pv_newO g4 100 8) o 6 (some g4.1)) (pv_newH g4 h4) (h o) := A4.arr 6 100 8 (by simp)
  have T5 : (pv_tg (pv_sr (pv_newO g4 100 8) o 6 (some g4.1)) o).1 = 7 := by rw [sr_tg, nO_t (by omega)]; exact T4
  generalize pv_sr (pv_newO g4 100 8) o 6 (some g4.1) = g5 at A5 T5 ⊢
  generalize pv_newH g4 h4 = h5 at A5 ⊢
  clear A4 T4 b4
  show pv_E d 51 P 43 _ [] 5 37 _ _
  have b5 : g5.1 = o + 6 := A5.1
  rw [z51_43, z51_44, n51_46]
  refine ⟨by omega, by decide, by decide, ?_⟩
  rw [z51_48]
  refine ⟨by rw [nO_t (by omega)]; exact T5, ?_⟩
  have A6 : AL g h o (o + 7) [(1, o + 1, 100, 5), (3, o + 2, 100, 8), (4, o + 3, 100, 8), (5, o + 4, 100, 8), (6, o + 5, 100, 8), (7, o + 6, 100, 8)] [] (pv_sr (pv_newO g5 100 8) o 7 (some g5.1)) (pv_newH g5 h5) (h o) := A5.arr 7 100 8 (by simp)
  have T6 : (pv_tg (pv_sr (pv_newO g5 100 8) o 7 (some g5.1)) o).1 = 7 := by rw [sr_tg, nO_t (by omega)]; exact T5
  generalize pv_sr (pv_newO g5 100 8) o 7 (some g5.1) = g6 at A6 T6 ⊢
  generalize pv_newH g5 h5 = h6 at A6 ⊢
  clear A5 T5 b5
  show pv_E d 51 P 51 _ [] 6 45 _ _
  have b6 : g6.1 = o + 7 := A6.1
  rw [z51_51, z51_52, n51_54]
  refine ⟨by omega, by decide, by decide, ?_⟩
  rw [z51_56]
  refine ⟨by rw [nO_t (by omega)]; exact T6, ?_⟩
  have A7 : AL g h o (o + 8) [(1, o + 1, 100, 5), (3, o + 2, 100, 8), (4, o + 3, 100, 8), (5, o + 4, 100, 8), (6, o + 5, 100, 8), (7, o + 6, 100, 8), (8, o + 7, 100, 8)] [] (pv_sr (pv_newO g6 100 8) o 8 (some g6.1)) (pv_newH g6 h6) (h o) := A6.arr 8 100 8 (by simp)
  have T7 : (pv_tg (pv_sr (pv_newO g6 100 8) o 8 (some g6.1)) o).1 = 7 := by rw [sr_tg, nO_t (by omega)]; exact T6
  generalize pv_sr (pv_newO g6 100 8) o 8 (some g6.1) = g7 at A7 T7 ⊢
  generalize pv_newH g6 h6 = h7 at A7 ⊢
  clear A6 T6 b6
  show pv_E d 51 P 59 _ [] 7 53 _ _
  rw [z51_59]
  exact hP _ _ A7
set_option maxHeartbeats 8000000 in
theorem c54 {d : Nat} {P : PvP} {g : PvG} {h : PvH} {o : Nat} (hb : g.1 = o + 1) (ho : o < 800) (T : (pv_tg g o).1 = 8) (hP : ∀ g' h', AL g h o (o + 5) [(1, o + 1, 100, 8), (2, o + 2, 100, 8), (3, o + 3, 100, 8), (4, o + 4, 100, 8)] [] g' h' (h o) → P none g' h') : pv_run (d + 1) 54 [.ref o] g h P := by
  rw [e54, z54_0, z54_1 (by simp [pv_cat])]
  have A0 := AL.nil (h := h) hb
  have T0 : (pv_tg g o).1 = 8 := T
  have b0 : g.1 = o + 1 := A0.1
  rw [z54_4, z54_5, n54_7]
  refine ⟨by omega, by decide, by decide, ?_⟩
  rw [z54_9]
  refine ⟨by rw [nO_t (by omega)]; exact T0, ?_⟩
  have A1 : AL g h o (o + 2) [(1, o + 1, 100, 8)] [] (pv_sr (pv_newO g 100 8) o 1 (some g.1)) (pv_newH g h) (h o) := A0.arr 1 100 8 (by simp)
  have T1 : (pv_tg (pv_sr (pv_newO g 100 8) o 1 (some g.1)) o).1 = 8 := by rw [sr_tg, nO_t (by omega)]; exact T0
  generalize pv_sr (pv_newO g 100 8) o 1 (some g.1) = g1 at A1 T1 ⊢
  generalize pv_newH g h = h1 at A1 ⊢
  clear A0 T0 b0
  show pv_E d 54 P 12 _ [] 1 8 _ _
  have b1 : g1.1 = o + 2 := A1.1
  rw [z54_12, z54_13, n54_15]
  refine ⟨by omega, by decide, by decide, ?_⟩
  rw [z54_17]
  refine ⟨by rw [nO_t (by omega)]; exact T1, ?_⟩
  have A2 : AL g h o (o + 3) [(1, o + 1, 100, 8), (2, o + 2, 100, 8)] [] (pv_sr (pv_newO g1 100 8) o 2 (some g1.1)) (pv_newH g1 h1) (h o) := A1.arr 2 100 8 (by simp)
  have T2 : (pv_tg (pv_sr (pv_newO g1 100 8) o 2 (some g1.1)) o).1 = 8 := by rw [sr_tg, nO_t (by omega)]; exact T1
  generalize pv_sr (pv_newO g1 100 8) o 2 (some g1.1) = g2 at A2 T2 ⊢
  generalize pv_newH g1 h1 = h2 at A2 ⊢
  clear A1 T1 b1
  show pv_E d 54 P 20 _ [] 2 16 _ _
  have b2 : g2.1 = o + 3 := A2.1
  rw [z54_20, z54_21, n54_23]
  refine ⟨by omega, by decide, by decide, ?_⟩
  rw [z54_25]
  refine ⟨by rw [nO_t (by omega)]; exact T2, ?_⟩
  have A3 : AL g h o (o + 4) [(1, o + 1, 100, 8), (2, o + 2, 100, 8), (3, o + 3, 100, 8)] [] (pv_sr (pv_newO g2 100 8) o 3 (some g2.1)) (pv_newH g2 h2) (h o) := A2.arr 3 100 8 (by simp)
  have T3 : (pv_tg (pv_sr (pv_newO g2 100 8) o 3 (some g2.1)) o).1 = 8 := by rw [sr_tg, nO_t (by omega)]; exact T2
  generalize pv_sr (pv_newO g2 100 8) o 3 (some g2.1) = g3 at A3 T3 ⊢
  generalize pv_newH g2 h2 = h3 at A3 ⊢
  clear A2 T2 b2
  show pv_E d 54 P 28 _ [] 3 24 _ _
  have b3 : g3.1 = o + 4 := A3.1
  rw [z54_28, z54_29, n54_31]
  refine ⟨by omega, by decide, by decide, ?_⟩
  rw [z54_33]
  refine ⟨by rw [nO_t (by omega)]; exact T3, ?_⟩
  have A4 : AL g h o (o + 5) [(1, o + 1, 100, 8), (2, o + 2, 100, 8), (3, o + 3, 100, 8), (4, o + 4, 100, 8)] [] (pv_sr (pv_newO g3 100 8) o 4 (some g3.1)) (pv_newH g3 h3) (h o) := A3.arr 4 100 8 (by simp)
  have T4 : (pv_tg (pv_sr (pv_newO g3 100 8) o 4 (some g3.1)) o).1 = 8 := by rw [sr_tg, nO_t (by omega)]; exact T3
  generalize pv_sr (pv_newO g3 100 8) o 4 (some g3.1) = g4 at A4 T4 ⊢
  generalize pv_newH g3 h3 = h4 at A4 ⊢
  clear A3 T3 b3
  show pv_E d 54 P 36 _ [] 4 32 _ _
  rw [z54_36]
  exact hP _ _ A4
set_option maxHeartbeats 8000000 in
theorem c4 {d : Nat} {P : PvP} {g : PvG} {h : PvH} {o : Nat} (hb : g.1 = o + 1) (ho : o < 800) (T : (pv_tg g o).1 = 1) (hP : ∀ g' h', AL g h o (o + 2) [(4, o + 1, 100, 5)] [] g' h' (h o) → P none g' h') : pv_run (d + 1) 4 [.ref o] g h P := by
  rw [e4, z4_0, z4_1 (by simp [pv_cat])]
  have A0 := AL.nil (h := h) hb
  have T0 : (pv_tg g o).1 = 1 := T
  have b0 : g.1 = o + 1 := A0.1
  rw [z4_4, z4_5, n4_6]
  refine ⟨by omega, by decide, by decide, ?_⟩
  rw [z4_8]
  refine ⟨by rw [nO_t (by omega)]; exact T0, ?_⟩
  have A1 : AL g h o (o + 2) [(4, o + 1, 100, 5)] [] (pv_sr (pv_newO g 100 5) o 4 (some g.1)) (pv_newH g h) (h o) := A0.arr 4 100 5 (by simp)
  have T1 : (pv_tg (pv_sr (pv_newO g 100 5) o 4 (some g.1)) o).1 = 1 := by rw [sr_tg, nO_t (by omega)]; exact T0
  generalize pv_sr (pv_newO g 100 5) o 4 (some g.1) = g1 at A1 T1 ⊢
  generalize pv_newH g h = h1 at A1 ⊢
  clear A0 T0 b0
  show pv_E d 4 P 11 _ [] 1 5 _ _
  rw [z4_11]
  exact hP _ _ A1
set_option maxHeartbeats 8000000 in
theorem c7 {d : Nat} {P : PvP} {g : PvG} {h : PvH} {o : Nat} (hb : g.1 = o + 1) (ho : o < 800) (T : (pv_tg g o).1 = 2) (hP : ∀ g' h', AL g h o (o + 1) [] [] g' h' (h o) → P none g' h') : pv_run (d + 1) 7 [.ref o] g h P := by
  rw [e7, z7_0, z7_1 (by simp [pv_cat])]
  have A0 := AL.nil (h := h) hb
  have T0 : (pv_tg g o).1 = 2 := T
  rw [z7_4]
  exact hP _ _ A0
set_option maxHeartbeats 8000000 in
theorem c11 {d : Nat} {P : PvP} {g : PvG} {h : PvH} {o : Nat} (hb : g.1 = o + 1) (ho : o < 800) (T : (pv_tg g o).1 = 3) (hP : ∀ g' h', AL g h o (o + 15) [(2, o + 1, 100, 4), (7, o + 2, 100, 5), (8, o + 3, 100, 3), (9, o + 4, 103, 3), (10, o + 8, 103, 4), (11, o + 13, 100, 12), (12, o + 14, 100, 12)] [(o + 4, 0, o + 5, 100, 5), (o + 4, 1, o + 6, 100, 5), (o + 4, 2, o + 7, 100, 5), (o + 8, 0, o + 9, 100, 4), (o + 8, 1, o + 10, 100, 4), (o + 8, 2, o + 11, 100, 4), (o + 8, 3, o + 12, 100, 4)] g' h' (h o) → P none g' h') : pv_run (d + 1) 11 [.ref o] g h P := by
  rw [e11, z11_0, z11_1 (by simp [pv_cat])]
  have A0 := AL.nil (h := h) hb
  have T0 : (pv_tg g o).1 = 3 := T
  have b0 : g.1 = o + 1 := A0.1
  rw [z11_4, z11_5, n11_6]
  refine ⟨by omega, by decide, by decide, ?_⟩
  rw [z11_8]
  refine ⟨by rw [nO_t (by omega)]; exact T0, ?_⟩
  have A1 : AL g h o (o + 2) [(2, o + 1, 100, 4)] [] (pv_sr (pv_newO g 100 4) o 2 (some g.1)) (pv_newH g h) (h o) := A0.arr 2 100 4 (by simp)
  have T1 : (pv_tg (pv_sr (pv_newO g 100 4) o 2 (some g.1)) o).1 = 3 := by rw [sr_tg, nO_t (by omega)]; exact T0
  generalize pv_sr (pv_newO g 100 4) o 2 (some g.1) = g1 at A1 T1 ⊢
  generalize pv_newH g h = h1 at A1 ⊢
  clear A0 T0 b0
  show pv_E d 11 P 11 _ [] 1 4 _ _
  have b1 : g1.1 = o + 2 := A1.1
  rw [z11_11, z11_12, n11_13]
  refine ⟨by omega, by decide, by decide, ?_⟩
  rw [z11_15]
  refine ⟨by rw [nO_t (by omega)]; exact T1, ?_⟩
  have A2 : AL g h o (o + 3) [(2, o + 1, 100, 4), (7, o + 2, 100, 5)] [] (pv_sr (pv_newO g1 100 5) o 7 (some g1.1)) (pv_newH g1 h1) (h o) := A1.arr 7 100 5 (by simp)
  have T2 : (pv_tg (pv_sr (pv_newO g1 100 5) o 7 (some g1.1)) o).1 = 3 := by rw [sr_tg, nO_t (by omega)]; exact T1
  generalize pv_sr (pv_newO g1 100 5) o 7 (some g1.1) = g2 at A2 T2 ⊢
  generalize pv_newH g1 h1 = h2 at A2 ⊢
  clear A1 T1 b1
  show pv_E d 11 P 18 _ [] 2 9 _ _
  have b2 : g2.1 = o + 3 := A2.1
  rw [z11_18, z11_19, n11_20]
  refine ⟨by omega, by decide, by decide, ?_⟩
  rw [z11_22]
  refine ⟨by rw [nO_t (by omega)]; exact T2, ?_⟩
  have A3 : AL g h o (o + 4) [(2, o + 1, 100, 4), (7, o + 2, 100, 5), (8, o + 3, 100, 3)] [] (pv_sr (pv_newO g2 100 3) o 8 (some g2.1)) (pv_newH g2 h2) (h o) := A2.arr 8 100 3 (by simp)
  have T3 : (pv_tg (pv_sr (pv_newO g2 100 3) o 8 (some g2.1)) o).1 = 3 := by rw [sr_tg, nO_t (by omega)]; exact T2
  generalize pv_sr (pv_newO g2 100 3) o 8 (some g2.1) = g3 at A3 T3 ⊢
  generalize pv_newH g2 h2 = h3 at A3 ⊢
  clear A2 T2 b2
  show pv_E d 11 P 25 _ [] 3 12 _ _
  have b3 : g3.1 = o + 4 := A3.1
  rw [z11_25, z11_26, z11_27, n11_28]
  refine ⟨by omega, by decide, by decide, ?_⟩
  rw [z11_32]
  refine ⟨by rw [nM_t (by omega)]; exact T3, ?_⟩
  have A4 : AL g h o (o + 8) [(2, o + 1, 100, 4), (7, o + 2, 100, 5), (8, o + 3, 100, 3), (9, o + 4, 103, 3)] [(o + 4, 0, o + 5, 100, 5), (o + 4, 1, o + 6, 100, 5), (o + 4, 2, o + 7, 100, 5)] (pv_sr (pv_newM g3 3 5) o 9 (some g3.1)) (pv_newMH g3 h3 3) (h o) := A3.mul 9 3 5 (by simp)
  have T4 : (pv_tg (pv_sr (pv_newM g3 3 5) o 9 (some g3.1)) o).1 = 3 := by rw [sr_tg, nM_t (by omega)]; exact T3
  generalize pv_sr (pv_newM g3 3 5) o 9 (some g3.1) = g4 at A4 T4 ⊢
  generalize pv_newMH g3 h3 3 = h4 at A4 ⊢
  clear A3 T3 b3
  show pv_E d 11 P 35 _ [] 7 30 _ _
  have b4 : g4.1 = o + 8 := A4.1
  rw [z11_35, z11_36, z11_37, n11_38]
  refine ⟨by omega, by decide, by decide, ?_⟩
  rw [z11_42]
  refine ⟨by rw [nM_t (by omega)]; exact T4, ?_⟩
  have A5 : AL g h o (o + 13) [(2, o + 1, 100, 4), (7, o + 2, 100, 5), (8, o + 3, 100, 3), (9, o + 4, 103, 3), (10, o + 8, 103, 4)] [(o + 4, 0, o + 5, 100, 5), (o + 4, 1, o + 6, 100, 5), (o + 4, 2, o + 7, 100, 5), (o + 8, 0, o + 9, 100, 4), (o + 8, 1, o + 10, 100, 4), (o + 8, 2, o + 11, 100, 4), (o + 8, 3, o + 12, 100, 4)] (pv_sr (pv_newM g4 4 4) o 10 (some g4.1)) (pv_newMH g4 h4 4) (h o) := A4.mul 10 4 4 (by simp)
  have T5 : (pv_tg (pv_sr (pv_newM g4 4 4) o 10 (some g4.1)) o).1 = 3 := by rw [sr_tg, nM_t (by omega)]; exact T4
  generalize pv_sr (pv_newM g4 4 4) o 10 (some g4.1) = g5 at A5 T5 ⊢
  generalize pv_newMH g4 h4 4 = h5 at A5 ⊢
  clear A4 T4 b4
  show pv_E d 11 P 45 _ [] 12 50 _ _
  have b5 : g5.1 = o + 13 := A5.1
  rw [z11_45, z11_46, n11_48]
  refine ⟨by omega, by decide, by decide, ?_⟩
  rw [z11_50]
  refine ⟨by rw [nO_t (by omega)]; exact T5, ?_⟩
  have A6 : AL g h o (o + 14) [(2, o + 1, 100, 4), (7, o + 2, 100, 5), (8, o + 3, 100, 3), (9, o + 4, 103, 3), (10, o + 8, 103, 4), (11, o + 13, 100, 12)] [(o + 4, 0, o + 5, 100, 5), (o + 4, 1, o + 6, 100, 5), (o + 4, 2, o + 7, 100, 5), (o + 8, 0, o + 9, 100, 4), (o + 8, 1, o + 10, 100, 4), (o + 8, 2, o + 11, 100, 4), (o + 8, 3, o + 12, 100, 4)] (pv_sr (pv_newO g5 100 12) o 11 (some g5.1)) (pv_newH g5 h5) (h o) := A5.arr 11 100 12 (by simp)
  have T6 : (pv_tg (pv_sr (pv_newO g5 100 12) o 11 (some g5.1)) o).1 = 3 := by rw [sr_tg, nO_t (by omega)]; exact T5
  generalize pv_sr (pv_newO g5 100 12) o 11 (some g5.1) = g6 at A6 T6 ⊢
  generalize pv_newH g5 h5 = h6 at A6 ⊢
  clear A5 T5 b5
  show pv_E d 11 P 53 _ [] 13 62 _ _
  have b6 : g6.1 = o + 14 := A6.1
  rw [z11_53, z11_54, n11_56]
  refine ⟨by omega, by decide, by decide, ?_⟩
  rw [z11_58]
  refine ⟨by rw [nO_t (by omega)]; exact T6, ?_⟩
  have A7 : AL g h o (o + 15) [(2, o + 1, 100, 4), (7, o + 2, 100, 5), (8, o + 3, 100, 3), (9, o + 4, 103, 3), (10, o + 8, 103, 4), (11, o + 13, 100, 12), (12, o + 14, 100, 12)] [(o + 4, 0, o + 5, 100, 5), (o + 4, 1, o + 6, 100, 5), (o + 4, 2, o + 7, 100, 5), (o + 8, 0, o + 9, 100, 4), (o + 8, 1, o + 10, 100, 4), (o + 8, 2, o + 11, 100, 4), (o + 8, 3, o + 12, 100, 4)] (pv_sr (pv_newO g6 100 12) o 12 (some g6.1)) (pv_newH g6 h6) (h o) := A6.arr 12 100 12 (by simp)
  have T7 : (pv_tg (pv_sr (pv_newO g6 100 12) o 12 (some g6.1)) o).1 = 3 := by rw [sr_tg, nO_t (by omega)]; exact T6
  generalize pv_sr (pv_newO g6 100 12) o 12 (some g6.1) = g7 at A7 T7 ⊢
  generalize pv_newH g6 h6 = h7 at A7 ⊢
  clear A6 T6 b6
  show pv_E d 11 P 61 _ [] 14 74 _ _
  rw [z11_61]
  exact hP _ _ A7
