/-! mend, lookUp -/
def setI (x : SX) (ix : Nat → Nat) : SX := (xT x, xS x, ix, xA x, xLo x, xHi x, xN x, xX x)
theorem cC.says {h : PvH} {g : PvG} {rt tt : Nat} {q : Nat → Nat} {x : SX} (G : gC g rt tt q) (C : cC h rt q x) (O : okX x) {h' : PvH} {ix : Nat → Nat} (hf : ∀ o, o ≠ 24 → h' o = h o) (hX : ∀ r, r < tR (xT x) → h' 24 r = nI (ix r)) : cC h' rt q (setI x ix) := by
  have G4 := G.rt
  obtain ⟨T, S, X, n, A, lo, hi, N, Y, z, zl⟩ := C
  refine ⟨T.fr (fun a h1 h2 => hf a (by omega)), S.fr (hf _ (by omega)) (hf _ (by omega)) (hf _ (by omega)) (hf _ (by omega)), hX, ?_, ?_, lo.fr ?_ (hf _ (by omega)) (hf _ (by omega)) (hf _ (by omega)) (hf _ (by omega)) (hf _ (by omega)), hi.fr ?_ (hf _ (by omega)) (hf _ (by omega)) (hf _ (by omega)) (hf _ (by omega)) (hf _ (by omega)), ?_, ?_, ?_, ?_⟩
  · rw [hf _ (by omega)]; exact n
  · intro i s hs
    have hi10 : i < 10 := Nat.lt_of_lt_of_le (List.getElem?_eq_some_iff.mp hs).1 O.2.2.2.1
    have q4 := G.q4 hi10
    exact (A i s hs).fr (hf _ (by omega)) (hf _ (by omega)) (hf _ (by omega)) (hf _ (by omega))
  · rw [hf _ (by omega)]
  · rw [hf _ (by omega)]
  · rw [hf _ (by omega)]; exact N
  · rw [hf _ (by omega)]; exact Y
  · rw [hf _ (by omega)]; exact z
  · intro e f he hf'
    rw [hf _ (by omega)]; exact zl e f he hf'
theorem cD.says {h : PvH} {x : SX} (M : cD h x) {h' : PvH} {ix : Nat → Nat} (hf : ∀ o, o ≠ 111 → h' o = h o) (hX : ∀ r, r < tR (xT x) → h' 111 r = nI (ix r)) : cD h' (setI x ix) := by
  obtain ⟨⟨a1, a2, a3, a4, a5, a6, a7, a8, a9, a10, a11, a12, a13, a14⟩, n, A, ⟨l1, l2⟩, ⟨i1, i2⟩, N, Y⟩ := M
  refine ⟨⟨?_, ?_, ?_, ?_, ?_, ?_, ?_, ?_, ?_, hX, ?_, ?_, ?_, ?_⟩, ?_, ?_, ⟨?_, ?_⟩, ⟨?_, ?_⟩, ?_, ?_⟩
  · rw [hf _ (by omega)]; exact a1
  · rw [hf _ (by omega)]; exact a2
  · rw [hf _ (by omega)]; exact a3
  · rw [hf _ (by omega)]; exact a4
  · rw [hf _ (by omega)]; exact a5
  · rw [hf _ (by omega)]; exact a6
  · rw [hf _ (by omega)]; exact a7
  · rw [hf _ (by omega)]; exact a8
  · rw [hf _ (by omega)]; exact a9
  · rw [hf _ (by omega)]; exact a11
  · rw [hf _ (by omega)]; exact a12
  · rw [hf _ (by omega)]; exact a13
  · rw [hf _ (by omega)]; exact a14
  · rw [hf _ (by omega)]; exact n
  · intro i s hs
    have := A i s hs
    unfold cP at this ⊢
    rw [hf _ (by omega)]; exact this
  · rw [hf _ (by omega)]; exact l1
  · intro s ix hs
    have := l2 s ix hs
    unfold cP at this ⊢
    rw [hf _ (by omega)]; exact this
  · rw [hf _ (by omega)]; exact i1
  · intro s ix hs
    have := i2 s ix hs
    unfold cP at this ⊢
    rw [hf _ (by omega)]; exact this
  · rw [hf _ (by omega)]; exact N
  · rw [hf _ (by omega)]; exact Y
/-- the index mended up to a record -/
def menI (s : SS) (ix : Nat → Nat) (k : Nat) : Nat → Nat := fun r => if r < k ∧ th s r = true then sP s r else ix r
def menA (x : SX) : Int32 := nI (nLie (xS x) (xI x) (tR (xT x)))
theorem menI_s {s : SS} {ix : Nat → Nat} {k : Nat} {f : Nat → Int32} {R : Nat} (h : ∀ r, r < R → f r = nI (menI s ix k r)) {v : Int32} (hv : k < R → v = nI (menI s ix (k + 1) k)) : ∀ r, r < R → upd f k v r = nI (menI s ix (k + 1) r) := by
  intro r hr
  by_cases e : r = k
  · subst e
    rw [pk_us]
    exact hv hr
  · rw [pk_un e, h r hr]
    unfold menI
    congr 1
    by_cases z : r < k
    · simp [z, show r < k + 1 by omega]
    · simp [z, show ¬ r < k + 1 by omega]
theorem menI_n {s : SS} {ix : Nat → Nat} {k : Nat} (h : lie s ix k = false) : menI s ix (k + 1) = menI s ix k := by
  funext r
  unfold menI
  by_cases e : r = k
  · subst e
    unfold lie at h
    cases ht : th s r
    · simp
    · rw [ht] at h
      have : ix r = sP s r := by simpa using h
      simp [this]
  · by_cases z : r < k
    · simp [z, show r < k + 1 by omega]
    · simp [z, show ¬ r < k + 1 by omega]
def menX (x : SX) : SX := setI x (menI (xS x) (xI x) (tR (xT x)))
theorem oC80 {x : SX} (O : okX x) : OpC 4 80 [] x (.int (menA x)) (menX x) := by
  intro d P g h ⟨rt, tt, q, G, C0⟩ hP
  have hR := O.R
  have loop : ∀ n r (h1 : PvH), r + n = tR (xT x) → cC h1 rt q (setI x (menI (xS x) (xI x) r)) → FC h h1 → pv_E (d + 3) 80 P 4 [some (.ref 0), some (.int (nI (nLie (xS x) (xI x) r))), some (.int (nI r))] [] 0 0 g h1 := by
    intro n
    induction n with
    | zero =>
      intro r h1 hr C F
      have hr : r = tR (xT x) := hr
      subst hr
      have hT := C.T.2.2.1
      have hT : h1 rt 2 = nI (tR (xT x)) := hT
      rw [z80_4]
      simp only [z80_0, z80_1, z80_2, z80_3, z80_5, z80_6, z80_9, z80_12, z80_15, z80_16, z80_17, z80_20, z80_23, z80_24, z80_27, z80_28, z80_29, z80_32, z80_35, z80_36, z80_37, z80_38, z80_41, z80_44, z80_47, z80_48, pv_catN, pv_cat1, pv_cat2, pv_cat3, pv_catL, Option.toList, List.nil_append, List.cons_append, List.append_nil, pv_rfS, pn_i, pn_r, pn_n, pn_o, true_and, and_true, Nat.le_refl, and_self, true_implies, false_implies, not_true_eq_false, not_false_eq_true, pv_b0, pv_b01, pv_bn0, pv_b1, Bool.false_eq_true, Bool.true_eq_false, Bool.not_false, Bool.not_true, pv_bT, pv_bF, eq_self, G.o0, G.r0_3, G.Tr.1, hT, nI_le' (show tR (xT x) < 2 ^ 31 by omega) (show tR (xT x) < 2 ^ 31 by omega)]
      exact hP g h1 ⟨rt, tt, q, G, C⟩ FG.rf F
    | succ n ih =>
      intro r h1 hr C F
      have hT : h1 rt 2 = nI (tR (xT x)) := C.T.2.2.1
      have hp := O.p31 r (by omega)
      have hm : menI (xS x) (xI x) r r = xI x r := by unfold menI; simp
      have O1 : okX (setI x (menI (xS x) (xI x) r)) := by
        obtain ⟨o1, o2, o3, o4⟩ := O
        refine ⟨o1, o2, fun k hk => ?_, o4⟩
        show menI (xS x) (xI x) r k < tF (xT x)
        unfold menI
        split
        · exact (o2.1 k hk).1
        · exact o3 k hk
      have hX : h1 24 r = nI (xI x r) := by rw [← hm]; exact C.X r (show r < tR (xT x) by omega)
      have e90 : ∀ P : PvP, pv_run (d + 3) 90 [.ref 0, .int (nI r)] g h1 P = P (some (.int (pv_b (lie (xS x) (xI x) r)))) g h1 := fun P => m90 (d := d) (P := P) G C O1 (show r < tR (xT x) by omega) (ix := xI x) hX (O.I31 r (by omega))
      have S := C.S
      have e : nLie (xS x) (xI x) (r + 1) = nLie (xS x) (xI x) r + (if lie (xS x) (xI x) r then 1 else 0) := rfl
      rw [z80_4]
      simp only [z80_0, z80_1, z80_2, z80_3, z80_5, z80_6, z80_9, z80_12, z80_15, z80_16, z80_17, z80_20, z80_23, z80_24, z80_27, z80_28, z80_29, z80_32, z80_35, z80_36, z80_37, z80_38, z80_41, z80_44, z80_47, z80_48, pv_catN, pv_cat1, pv_cat2, pv_cat3, pv_catL, Option.toList, List.nil_append, List.cons_append, List.append_nil, pv_rfS, pn_i, pn_r, pn_n, pn_o, true_and, and_true, Nat.le_refl, and_self, true_implies, false_implies, not_true_eq_false, not_false_eq_true, pv_b0, pv_b01, pv_bn0, pv_b1, Bool.false_eq_true, Bool.true_eq_false, Bool.not_false, Bool.not_true, pv_bT, pv_bF, eq_self, G.o0, G.r0_3, G.Tr.1, hT, nI_le' (show tR (xT x) < 2 ^ 31 by omega) (show r < 2 ^ 31 by omega), show (tR (xT x) ≤ r) = False from eq_false (by omega), e90, G.r0_4, G.r0_5, G.S20.1, G.S20.2.1, G.S20.2.2.2.2.1, G.t24, vp_nI (show r < 8 by omega) (show 8 < 2 ^ 31 by decide), nI_clamp (show r < 2 ^ 31 by omega), show h1 21 r = nI (sP (xS x) r) from S.1 r (by show r < tR (xT x); omega), nI_1]
      refine br (fun c => ?_) (fun c => ?_)
      · have := ih (r + 1) h1 (by omega) (by rw [menI_n c]; exact C) F
        rw [e] at this
        simpa [c] using this
      · have C2 : cC (pv_st h1 24 r (nI (sP (xS x) r))) rt q (setI x (menI (xS x) (xI x) (r + 1))) := by
          refine cC.says (x := setI x (menI (xS x) (xI x) r)) G C O1 (fun o ho => st_o ho) (fun k hk => ?_)
          rw [pv_st_at]
          refine menI_s (R := tR (xT x)) (fun z hz => C.X z hz) (fun _ => ?_) k hk
          unfold menI
          have : th (xS x) r = true := by
            unfold lie at c
            revert c
            cases th (xS x) r <;> simp
          simp [this]
        have := ih (r + 1) _ (by omega) C2 (F.st (by omega))
        rw [e] at this
        simpa [c] using this
  simp only [e80, z80_0, z80_1, z80_2, z80_3, pv_catN, pv_cat1, pv_cat2, pv_cat3, pv_catL, Option.toList, List.nil_append, List.cons_append, List.append_nil, pv_rfS, pn_i, pn_r, pn_n, pn_o, true_and, and_true, Nat.le_refl, and_self, true_implies, false_implies, not_true_eq_false, not_false_eq_true, pv_b0, pv_b01, pv_bn0, pv_b1, Bool.false_eq_true, Bool.true_eq_false, Bool.not_false, Bool.not_true, pv_bT, pv_bF, eq_self]
  refine loop (tR (xT x)) 0 h (Nat.zero_add _) ?_ FC.rf
  have e0 : menI (xS x) (xI x) 0 = xI x := by funext r; unfold menI; simp
  rw [e0]
  exact C0
theorem oM158 {x : SX} (O : okX x) : OpM 2 158 [] x (.int (menA x)) (menX x) := by
  intro d P g h ⟨G, M0⟩ hP
  have M1 := M0.t0
  have hR := O.R
  have loop : ∀ n r (h1 : PvH), r + n = tR (xT x) → cD h1 (setI x (menI (xS x) (xI x) r)) → FM h h1 → pv_E (d + 1) 158 P 12 [some (.ref 102), some (.int (nI (nLie (xS x) (xI x) (tR (xT x))))), some (.int (nI r))] [] 0 0 g h1 := by
    intro n
    induction n with
    | zero =>
      intro r h1 hr M F
      have hr : r = tR (xT x) := hr
      subst hr
      have hT : h1 102 6 = nI (tR (xT x)) := M.M.R
      rw [z158_12]
      simp only [z158_0, z158_1, z158_2, z158_5, z158_6, z158_9, z158_10, z158_11, z158_13, z158_14, z158_17, z158_20, z158_21, z158_24, z158_25, z158_26, z158_29, z158_30, z158_31, z158_34, z158_35, z158_38, z158_39, z158_40, z158_43, z158_44, z158_47, z158_48, z158_49, z158_50, z158_53, z158_56, z158_57, pv_catN, pv_cat1, pv_cat2, pv_cat3, pv_catL, Option.toList, List.nil_append, List.cons_append, List.append_nil, pv_rfS, pn_i, pn_r, pn_n, pn_o, true_and, and_true, Nat.le_refl, and_self, true_implies, false_implies, not_true_eq_false, not_false_eq_true, pv_b0, pv_b01, pv_bn0, pv_b1, Bool.false_eq_true, Bool.true_eq_false, Bool.not_false, Bool.not_true, pv_bT, pv_bF, eq_self, G.o, hT, nI_le' (show tR (xT x) < 2 ^ 31 by omega) (show tR (xT x) < 2 ^ 31 by omega)]
      exact hP h1 ⟨G, M⟩ F
    | succ n ih =>
      intro r h1 hr M F
      have hrR : r < tR (xT x) := by omega
      have hT : h1 102 6 = nI (tR (xT x)) := M.M.R
      have hD : h1 110 r = pv_b ((sD (xS x)).testBit r) := M.M.D r hrR
      have hX : h1 111 r = nI (menI (xS x) (xI x) r r) := M.M.X r hrR
      have hF : h1 109 r = nI (sP (xS x) r) := M.M.P r hrR
      have hm : menI (xS x) (xI x) r r = xI x r := by unfold menI; simp
      rw [hm] at hX
      rw [z158_12]
      simp only [z158_0, z158_1, z158_2, z158_5, z158_6, z158_9, z158_10, z158_11, z158_13, z158_14, z158_17, z158_20, z158_21, z158_24, z158_25, z158_26, z158_29, z158_30, z158_31, z158_34, z158_35, z158_38, z158_39, z158_40, z158_43, z158_44, z158_47, z158_48, z158_49, z158_50, z158_53, z158_56, z158_57, pv_catN, pv_cat1, pv_cat2, pv_cat3, pv_catL, Option.toList, List.nil_append, List.cons_append, List.append_nil, pv_rfS, pn_i, pn_r, pn_n, pn_o, true_and, and_true, Nat.le_refl, and_self, true_implies, false_implies, not_true_eq_false, not_false_eq_true, pv_b0, pv_b01, pv_bn0, pv_b1, Bool.false_eq_true, Bool.true_eq_false, Bool.not_false, Bool.not_true, pv_bT, pv_bF, eq_self, G.o, hT, nI_le' (show tR (xT x) < 2 ^ 31 by omega) (show r < 2 ^ 31 by omega), show (tR (xT x) ≤ r) = False from eq_false (by omega), G.r12, G.t110, G.r13, G.t111, G.r11, G.t109, vp_nI (show r < 8 by omega) (show 8 < 2 ^ 31 by decide), nI_clamp (show r < 2 ^ 31 by omega), hD, hX, hF, nI_1]
      have fin : ∀ v, v = nI (menI (xS x) (xI x) (r + 1) r) → pv_E (d + 1) 158 P 12 [some (.ref 102), some (.int (nI (nLie (xS x) (xI x) (tR (xT x))))), some (.int (nI (r + 1)))] [] 0 0 g (pv_st h1 111 r v) := by
        intro v hv
        refine ih (r + 1) _ (by omega) ?_ (F.st (by omega))
        refine cD.says (x := setI x (menI (xS x) (xI x) r)) M (fun o ho => st_o ho) (fun k hk => ?_)
        rw [pv_st_at]
        exact menI_s (R := tR (xT x)) (fun z hz => M.M.X z hz) (fun _ => hv) k hk
      refine ⟨fun c => fin _ ?_, fun c => fin _ ?_⟩
      · unfold menI th
        simp [c]
      · unfold menI th
        simp [c]
  simp only [e158, z158_0, z158_1, z158_2, z158_5, pv_catN, pv_cat1, pv_cat2, pv_cat3, pv_catL, Option.toList, List.nil_append, List.cons_append, List.append_nil, pv_rfS, pn_i, pn_r, pn_n, pn_o, true_and, and_true, Nat.le_refl, and_self, true_implies, false_implies, not_true_eq_false, not_false_eq_true, pv_b0, pv_b01, pv_bn0, pv_b1, Bool.false_eq_true, Bool.true_eq_false, Bool.not_false, Bool.not_true, pv_bT, pv_bF, eq_self, G.o]
  rw [z158_6 (by simp [pv_cat]) (by decide)]
  refine ⟨G.o, m155 G M1 O ?_⟩
  simp only [z158_9, z158_10, z158_11, pv_catN, pv_cat1, pv_cat2, pv_cat3, pv_catL, Option.toList, List.nil_append, List.cons_append, List.append_nil, pv_rfS, pn_i, pn_r, pn_n, pn_o, true_and, and_true, Nat.le_refl, and_self, true_implies, false_implies, not_true_eq_false, not_false_eq_true, pv_b0, pv_b01, pv_bn0, pv_b1, Bool.false_eq_true, Bool.true_eq_false, Bool.not_false, Bool.not_true, pv_bT, pv_bF, eq_self]
  refine loop (tR (xT x)) 0 _ (Nat.zero_add _) ?_ (FM.rf.st (by omega))
  have e0 : menI (xS x) (xI x) 0 = xI x := by funext r; unfold menI; simp
  rw [e0]
  exact M1
/-- floors looked through -/
def cF (z a : Nat) (n : Nat) : Nat := sm (fun i => if a + i = z then 0 else 1) n
def lookN (x : SX) (r : Nat) : Nat := if xI x r = sP (xS x) r then 1 else (if sH (xS x) ≤ xI x r then 1 else 0) + cF (xI x r) (sH (xS x)) (sP (xS x) r + 1 - sH (xS x))
def lookA (x : SX) (a : Int32) : Int32 := if inr a (tR (xT x)) then (if th (xS x) a.toNatClampNeg then nI (lookN x a.toNatClampNeg) else -3) else -1
theorem m93 {d : Nat} {P : PvP} {g : PvG} {h : PvH} {rt tt : Nat} {q : Nat → Nat} {x : SX} (G : gC g rt tt q) (C : cC h rt q x) (O : okX x) {z b : Nat} (hz : z < 5) (hb : b < 5) (hw : sH (xS x) ≤ b) (hP : P (some (.int (nI (if z = b then 1 else (if sH (xS x) ≤ z then 1 else 0) + cF z (sH (xS x)) (b + 1 - sH (xS x)))))) g h) : pv_run (d + 1) 93 [.ref 0, .int (nI z), .int (nI b)] g h P := by
  have hH : sH (xS x) ≤ 5 := Nat.le_trans O.S.2.2.1 O.F
  have loop : ∀ n i k, i + n = b + 1 - sH (xS x) → (P (some (.int (nI (k + cF z (sH (xS x)) (b + 1 - sH (xS x)))))) g h) → pv_E d 93 P 31 [some (.ref 0), some (.int (nI z)), some (.int (nI b)), some (.int (nI (k + cF z (sH (xS x)) i))), some (.int (nI (sH (xS x) + i)))] [] 0 0 g h := by
    intro n
    induction n with
    | zero =>
      intro i k hi hP
      rw [z93_31]
      simp only [z93_0, z93_1, z93_2, z93_3, z93_4, z93_7, z93_10, z93_13, z93_14, z93_15, z93_16, z93_17, z93_20, z93_21, z93_22, z93_23, z93_26, z93_29, z93_33, z93_34, z93_37, z93_39, z93_40, z93_43, z93_46, z93_49, z93_52, z93_53, pv_catN, pv_cat1, pv_cat2, pv_cat3, pv_catL, Option.toList, List.nil_append, List.cons_append, List.append_nil, pv_rfS, pn_i, pn_r, pn_n, pn_o, true_and, and_true, Nat.le_refl, and_self, true_implies, false_implies, not_true_eq_false, not_false_eq_true, pv_b0, pv_b01, pv_bn0, pv_b1, Bool.false_eq_true, Bool.true_eq_false, Bool.not_false, Bool.not_true, pv_bT, pv_bF, eq_self, nI_lt' (show b < 2 ^ 31 by omega) (show sH (xS x) + i < 2 ^ 31 by omega), show (b < sH (xS x) + i) = True from eq_true (by omega)]
      rw [show i = b + 1 - sH (xS x) by omega]
      exact hP
    | succ n ih =>
      intro i k hi hP
      have := ih (i + 1) k (by omega) hP
      have e : cF z (sH (xS x)) (i + 1) = cF z (sH (xS x)) i + (if sH (xS x) + i = z then 0 else 1) := rfl
      rw [e] at this
      rw [z93_31]
      simp only [z93_0, z93_1, z93_2, z93_3, z93_4, z93_7, z93_10, z93_13, z93_14, z93_15, z93_16, z93_17, z93_20, z93_21, z93_22, z93_23, z93_26, z93_29, z93_33, z93_34, z93_37, z93_39, z93_40, z93_43, z93_46, z93_49, z93_52, z93_53, pv_catN, pv_cat1, pv_cat2, pv_cat3, pv_catL, Option.toList, List.nil_append, List.cons_append, List.append_nil, pv_rfS, pn_i, pn_r, pn_n, pn_o, true_and, and_true, Nat.le_refl, and_self, true_implies, false_implies, not_true_eq_false, not_false_eq_true, pv_b0, pv_b01, pv_bn0, pv_b1, Bool.false_eq_true, Bool.true_eq_false, Bool.not_false, Bool.not_true, pv_bT, pv_bF, eq_self, nI_lt' (show b < 2 ^ 31 by omega) (show sH (xS x) + i < 2 ^ 31 by omega), show (b < sH (xS x) + i) = False from eq_false (by omega), nI_eq' (show sH (xS x) + i < 2 ^ 31 by omega) (show z < 2 ^ 31 by omega), nI_1]
      refine ⟨fun c => ?_, fun c => ?_⟩
      · rw [if_pos c] at this
        exact this
      · rw [if_neg c] at this
        exact this
  simp only [e93, z93_0, z93_1, z93_2, z93_3, z93_4, z93_7, z93_10, z93_13, z93_14, z93_15, z93_16, z93_17, z93_20, z93_21, z93_22, z93_23, z93_26, z93_29, z93_33, z93_34, z93_37, z93_39, z93_40, z93_43, z93_46, z93_49, z93_52, z93_53, pv_catN, pv_cat1, pv_cat2, pv_cat3, pv_catL, Option.toList, List.nil_append, List.cons_append, List.append_nil, pv_rfS, pn_i, pn_r, pn_n, pn_o, true_and, and_true, Nat.le_refl, and_self, true_implies, false_implies, not_true_eq_false, not_false_eq_true, pv_b0, pv_b01, pv_bn0, pv_b1, Bool.false_eq_true, Bool.true_eq_false, Bool.not_false, Bool.not_true, pv_bT, pv_bF, eq_self, G.o0, G.r0_4, G.S20.1, C.S.2.2.2.2.1, nI_lt' (show z < 2 ^ 31 by omega) (show sH (xS x) < 2 ^ 31 by omega), nI_eq' (show z < 2 ^ 31 by omega) (show b < 2 ^ 31 by omega)]
  refine ⟨fun c => ?_, fun c => ⟨fun c2 => ?_, fun c2 => ?_⟩⟩
  · have := loop (b + 1 - sH (xS x)) 0 0 (by omega) (by rw [if_neg (by omega), if_neg (by omega)] at hP; exact hP)
    exact this
  · have := loop (b + 1 - sH (xS x)) 0 1 (by omega) (by rw [if_neg c2, if_pos (by omega)] at hP; exact hP)
    exact this
  · have c2 : z = b := Classical.byContradiction c2
    rw [if_pos c2] at hP
    exact hP
theorem okX.I5 {x : SX} (O : okX x) : ∀ r, r < tR (xT x) → xI x r < 5 := fun r hr => Nat.lt_of_lt_of_le (O.2.2.1 r hr) O.F
theorem okX.P5 {x : SX} (O : okX x) : ∀ r, r < tR (xT x) → sP (xS x) r < 5 := fun r hr => Nat.lt_of_lt_of_le (O.S.1 r hr).1 O.F
theorem oC78 {x : SX} (O : okX x) (a : Int32) : OpC 3 78 [.int a] x (.int (lookA x a)) x := by
  intro d P g h ⟨rt, tt, q, G, C⟩ hP
  have hP := hP g h ⟨rt, tt, q, G, C⟩ FG.rf FC.rf
  have hR := O.R
  unfold lookA at hP
  cases hI : inr a (tR (xT x)) with
  | false =>
    simp only [e78, z78_0, z78_1, z78_2, z78_5, z78_8, z78_9, z78_10, z78_11, z78_14, z78_18, z78_21, z78_23, z78_24, z78_25, z78_26, z78_29, z78_30, z78_31, z78_32, z78_35, z78_38, z78_39, z78_43, pv_catN, pv_cat1, pv_cat2, pv_cat3, pv_catL, Option.toList, List.nil_append, List.cons_append, List.append_nil, pv_rfS, pn_i, pn_r, pn_n, pn_o, true_and, and_true, Nat.le_refl, and_self, true_implies, false_implies, not_true_eq_false, not_false_eq_true, pv_b0, pv_b01, pv_bn0, pv_b1, Bool.false_eq_true, Bool.true_eq_false, Bool.not_false, Bool.not_true, pv_bT, pv_bF, eq_self, G.o0, m86 G C O, hI]
    simpa [hI] using hP
  | true =>
    obtain ⟨r, hr, rfl⟩ := inr_t hI
    have hc := nI_clamp (show r < 2 ^ 31 by omega)
    rw [if_pos hI, hc] at hP
    simp only [e78, z78_0, z78_1, z78_2, z78_5, z78_8, z78_9, z78_10, z78_11, z78_14, z78_15, z78_18, z78_21, z78_23, z78_24, z78_25, z78_26, z78_29, z78_30, z78_31, z78_32, z78_35, z78_38, z78_39, z78_43, pv_catN, pv_cat1, pv_cat2, pv_cat3, pv_catL, Option.toList, List.nil_append, List.cons_append, List.append_nil, pv_rfS, pn_i, pn_r, pn_n, pn_o, true_and, and_true, Nat.le_refl, and_self, true_implies, false_implies, not_true_eq_false, not_false_eq_true, pv_b0, pv_b01, pv_bn0, pv_b1, Bool.false_eq_true, Bool.true_eq_false, Bool.not_false, Bool.not_true, pv_bT, pv_bF, eq_self, G.o0, m86 G C O, hI, G.r0_4, G.r0_5, G.S20.1, m42 G.S20 C.S O.D (show r < 32 by omega), G.S20.2.1, G.S20.2.2.2.2.1, G.t24, vp_nI (show r < 8 by omega) (show 8 < 2 ^ 31 by decide), hc, C.X r hr, C.S.1 r hr]
    refine ⟨fun c => ?_, fun c => ?_⟩
    · have c : th (xS x) r = true := by simpa using c
      rw [if_pos c] at hP
      rw [z78_40 (by simp [pv_cat]) (by decide)]
      refine ⟨G.o0, m93 G C O (O.I5 r hr) (O.P5 r hr) (O.hw r hr c) ?_⟩
      simp only [z78_0, z78_1, z78_2, z78_5, z78_8, z78_9, z78_10, z78_11, z78_14, z78_15, z78_18, z78_21, z78_23, z78_24, z78_25, z78_26, z78_29, z78_30, z78_31, z78_32, z78_35, z78_38, z78_39, z78_40, z78_43, pv_catN, pv_cat1, pv_cat2, pv_cat3, pv_catL, Option.toList, List.nil_append, List.cons_append, List.append_nil, pv_rfS, pn_i, pn_r, pn_n, pn_o, true_and, and_true, Nat.le_refl, and_self, true_implies, false_implies, not_true_eq_false, not_false_eq_true, pv_b0, pv_b01, pv_bn0, pv_b1, Bool.false_eq_true, Bool.true_eq_false, Bool.not_false, Bool.not_true, pv_bT, pv_bF, eq_self]
      exact hP
    · have c : th (xS x) r = false := Classical.byContradiction c
      rw [c] at hP
      exact hP
theorem oM154 {x : SX} (O : okX x) (a : Int32) : OpM 3 154 [.int a] x (.int (lookA x a)) x := by
  intro d P g h ⟨G, M0⟩ hP
  have M := M0.t0
  have hP := hP _ ⟨G, M⟩ (FM.rf.st (by omega))
  have hR := O.R
  have hH : sH (xS x) ≤ 5 := Nat.le_trans O.S.2.2.1 O.F
  unfold lookA at hP
  cases hI : inr a (tR (xT x)) with
  | false =>
    simp only [e154, z154_0, z154_1, z154_2, z154_5, z154_6, z154_7, z154_10, z154_13, z154_14, pv_catN, pv_cat1, pv_cat2, pv_cat3, pv_catL, Option.toList, List.nil_append, List.cons_append, List.append_nil, pv_rfS, pn_i, pn_r, pn_n, pn_o, true_and, and_true, Nat.le_refl, and_self, true_implies, false_implies, not_true_eq_false, not_false_eq_true, pv_b0, pv_b01, pv_bn0, pv_b1, Bool.false_eq_true, Bool.true_eq_false, Bool.not_false, Bool.not_true, pv_bT, pv_bF, eq_self, G.o, m102 G M O, hI]
    simpa [hI] using hP
  | true =>
    obtain ⟨r, hr, rfl⟩ := inr_t hI
    have hc := nI_clamp (show r < 2 ^ 31 by omega)
    have hx := O.I5 r hr
    have hp := O.P5 r hr
    rw [if_pos hI, hc] at hP
    simp only [e154, z154_0, z154_1, z154_2, z154_5, z154_6, z154_7, z154_10, z154_13, z154_14, z154_15, z154_16, z154_19, z154_20, z154_21, z154_24, z154_26, z154_27, z154_28, z154_31, z154_32, z154_33, z154_34, z154_37, z154_38, z154_39, z154_42, z154_43, z154_44, z154_45, z154_48, z154_49, z154_50, z154_51, z154_54, z154_57, z154_58, z154_61, z154_62, z154_63, z154_64, z154_67, z154_69, z154_70, z154_73, z154_74, z154_75, z154_78, z154_79, z154_80, z154_81, z154_84, z154_85, z154_86, z154_89, z154_90, z154_93, z154_94, z154_95, z154_96, z154_99, z154_102, z154_103, pv_catN, pv_cat1, pv_cat2, pv_cat3, pv_catL, Option.toList, List.nil_append, List.cons_append, List.append_nil, pv_rfS, pn_i, pn_r, pn_n, pn_o, true_and, and_true, Nat.le_refl, and_self, true_implies, false_implies, not_true_eq_false, not_false_eq_true, pv_b0, pv_b01, pv_bn0, pv_b1, Bool.false_eq_true, Bool.true_eq_false, Bool.not_false, Bool.not_true, pv_bT, pv_bF, eq_self, G.o, m102 G M O, hI, G.r12, G.t110, G.r13, G.t111, G.r11, G.t109, vp_nI (show r < 8 by omega) (show 8 < 2 ^ 31 by decide), hc, M.M.D r hr, M.M.X r hr, M.M.P r hr, M.M.H, nI_eq' (show xI x r < 2 ^ 31 by omega) (show sP (xS x) r < 2 ^ 31 by omega), nI_lt' (show xI x r < 2 ^ 31 by omega) (show sH (xS x) < 2 ^ 31 by omega)]
    refine ⟨fun c => ?_, fun c => ?_⟩
    · have ct : th (xS x) r = true := by unfold th; rw [c]; rfl
      have hw := O.hw r hr ct
      rw [if_pos ct] at hP
      generalize hh : pv_st h 102 0 0 = h1 at M hP ⊢
      have loop : ∀ n i k x3, i + n = sP (xS x) r + 1 - sH (xS x) → (P (some (.int (nI (k + cF (xI x r) (sH (xS x)) (sP (xS x) r + 1 - sH (xS x)))))) g h1) → pv_E (d + 2) 154 P 68 [some (.ref 102), some (.int (nI r)), some (.int (nI (k + cF (xI x r) (sH (xS x)) i))), some (.int (nI (sH (xS x) + i)))] x3 0 0 g h1 ∨ x3 ≠ [] := by
        intro n
        induction n with
        | zero =>
          intro i k x3 hi hP
          by_cases hx3 : x3 = []
          · subst hx3
            left
            rw [z154_68]
            simp only [z154_0, z154_1, z154_2, z154_5, z154_6, z154_7, z154_10, z154_13, z154_14, z154_15, z154_16, z154_19, z154_20, z154_21, z154_24, z154_26, z154_27, z154_28, z154_31, z154_32, z154_33, z154_34, z154_37, z154_38, z154_39, z154_42, z154_43, z154_44, z154_45, z154_48, z154_49, z154_50, z154_51, z154_54, z154_57, z154_58, z154_61, z154_62, z154_63, z154_64, z154_67, z154_69, z154_70, z154_73, z154_74, z154_75, z154_78, z154_79, z154_80, z154_81, z154_84, z154_85, z154_86, z154_89, z154_90, z154_93, z154_94, z154_95, z154_96, z154_99, z154_102, z154_103, pv_catN, pv_cat1, pv_cat2, pv_cat3, pv_catL, Option.toList, List.nil_append, List.cons_append, List.append_nil, pv_rfS, pn_i, pn_r, pn_n, pn_o, true_and, and_true, Nat.le_refl, and_self, true_implies, false_implies, not_true_eq_false, not_false_eq_true, pv_b0, pv_b01, pv_bn0, pv_b1, Bool.false_eq_true, Bool.true_eq_false, Bool.not_false, Bool.not_true, pv_bT, pv_bF, eq_self, G.o, G.r11, G.t109, vp_nI (show r < 8 by omega) (show 8 < 2 ^ 31 by decide), hc, M.M.P r hr, nI_lt' (show sP (xS x) r < 2 ^ 31 by omega) (show sH (xS x) + i < 2 ^ 31 by omega), show (sP (xS x) r < sH (xS x) + i) = True from eq_true (by omega)]
            rw [show i = sP (xS x) r + 1 - sH (xS x) by omega]
            exact hP
          · exact Or.inr hx3
        | succ n ih =>
          intro i k x3 hi hP
          by_cases hx3 : x3 = []
          · subst hx3
            left
            have := (ih (i + 1) k [] (by omega) hP).resolve_right (fun q => q rfl)
            have e : cF (xI x r) (sH (xS x)) (i + 1) = cF (xI x r) (sH (xS x)) i + (if sH (xS x) + i = xI x r then 0 else 1) := rfl
            rw [e] at this
            rw [z154_68]
            simp only [z154_0, z154_1, z154_2, z154_5, z154_6, z154_7, z154_10, z154_13, z154_14, z154_15, z154_16, z154_19, z154_20, z154_21, z154_24, z154_26, z154_27, z154_28, z154_31, z154_32, z154_33, z154_34, z154_37, z154_38, z154_39, z154_42, z154_43, z154_44, z154_45, z154_48, z154_49, z154_50, z154_51, z154_54, z154_57, z154_58, z154_61, z154_62, z154_63, z154_64, z154_67, z154_69, z154_70, z154_73, z154_74, z154_75, z154_78, z154_79, z154_80, z154_81, z154_84, z154_85, z154_86, z154_89, z154_90, z154_93, z154_94, z154_95, z154_96, z154_99, z154_102, z154_103, pv_catN, pv_cat1, pv_cat2, pv_cat3, pv_catL, Option.toList, List.nil_append, List.cons_append, List.append_nil, pv_rfS, pn_i, pn_r, pn_n, pn_o, true_and, and_true, Nat.le_refl, and_self, true_implies, false_implies, not_true_eq_false, not_false_eq_true, pv_b0, pv_b01, pv_bn0, pv_b1, Bool.false_eq_true, Bool.true_eq_false, Bool.not_false, Bool.not_true, pv_bT, pv_bF, eq_self, G.o, G.r11, G.t109, G.r13, G.t111, vp_nI (show r < 8 by omega) (show 8 < 2 ^ 31 by decide), hc, M.M.P r hr, M.M.X r hr, nI_lt' (show sP (xS x) r < 2 ^ 31 by omega) (show sH (xS x) + i < 2 ^ 31 by omega), show (sP (xS x) r < sH (xS x) + i) = False from eq_false (by omega), nI_eq' (show sH (xS x) + i < 2 ^ 31 by omega) (show xI x r < 2 ^ 31 by omega), nI_1]
            refine ⟨fun c => ?_, fun c => ?_⟩
            · rw [if_neg c] at this
              exact this
            · have c := Classical.byContradiction c
              rw [if_pos c] at this
              rw [Int32.add_zero]
              exact this
          · exact Or.inr hx3
      unfold lookN at hP
      refine ⟨fun c1 => ⟨fun c2 => ?_, fun c2 => ?_⟩, fun c1 => ?_⟩
      · rw [if_neg c1, if_neg (by omega)] at hP
        exact (loop (sP (xS x) r + 1 - sH (xS x)) 0 0 [] (by omega) hP).resolve_right (fun q => q rfl)
      · rw [if_neg c1, if_pos (by omega)] at hP
        exact (loop (sP (xS x) r + 1 - sH (xS x)) 0 1 [] (by omega) hP).resolve_right (fun q => q rfl)
      · have c1 := Classical.byContradiction c1
        rw [if_pos c1] at hP
        exact hP
    · have c : (sD (xS x)).testBit r = true := by simpa using c
      have ct : th (xS x) r = false := by unfold th; rw [c]; rfl
      rw [ct] at hP
      exact hP
