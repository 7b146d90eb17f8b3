/-! FRAMES: which writes the relations don't see -/
theorem st_at {h : PvH} {o k : Nat} {v : Int32} : pv_st h o k v o k = v := by simp [pv_st]
theorem st_k {h : PvH} {o k j : Nat} {v : Int32} (hj : j ≠ k) : pv_st h o k v o j = h o j := by simp [pv_st, hj]
theorem st_o {h : PvH} {o k a : Nat} {v : Int32} (ha : a ≠ o) : pv_st h o k v a = h a := pv_st_ne h k v ha
theorem FM.st {h h' : PvH} (F : FM h h') {o k : Nat} {v : Int32} (ho : 102 ≤ o) : FM h (pv_st h' o k v) := fun a ha => by rw [st_o (by omega)]; exact F a ha
theorem FC.st {h h' : PvH} (F : FC h h') {o k : Nat} {v : Int32} (ho : o < 102) : FC h (pv_st h' o k v) := fun a ha => by rw [st_o (by omega)]; exact F a ha
theorem FC.tr {a b c : PvH} (h1 : FC a b) (h2 : FC b c) : FC a c := fun o ho => (h2 o ho).trans (h1 o ho)
theorem FM.tr {a b c : PvH} (h1 : FM a b) (h2 : FM b c) : FM a c := fun o ho => (h2 o ho).trans (h1 o ho)
theorem FG.tr {a b c : PvG} (h1 : FG a b) (h2 : FG b c) : FG a c := ⟨fun o => (h2.1 o).trans (h1.1 o), fun o k ho => (h2.2 o k ho).trans (h1.2 o k ho)⟩
/-- what the model's relation reads -/
theorem cD.fr {h h' : PvH} {x : SX} (M : cD h x) (ho : ∀ o, 103 ≤ o → o ≤ 112 ∨ o = 117 ∨ o = 118 ∨ o = 119 → h' o = h o) (hk : ∀ k, k = 2 ∨ k = 4 ∨ k = 6 ∨ k = 15 ∨ k = 16 ∨ k = 17 ∨ k = 25 → h' 102 k = h 102 k) : cD h' x := by
  obtain ⟨⟨m1, m2, m3, m4, m5, m6, m7, m8, m9, m10, m11, m12, m13, m14⟩, n, A, ⟨l1, l2⟩, ⟨i1, i2⟩, N, Y⟩ := M
  have e103 := ho 103 (by omega) (by omega)
  have e104 := ho 104 (by omega) (by omega)
  have e105 := ho 105 (by omega) (by omega)
  have e106 := ho 106 (by omega) (by omega)
  have e107 := ho 107 (by omega) (by omega)
  have e108 := ho 108 (by omega) (by omega)
  have e109 := ho 109 (by omega) (by omega)
  have e110 := ho 110 (by omega) (by omega)
  have e111 := ho 111 (by omega) (by omega)
  have e112 := ho 112 (by omega) (by omega)
  have e117 := ho 117 (by omega) (by omega)
  have e118 := ho 118 (by omega) (by omega)
  have e119 := ho 119 (by omega) (by omega)
  refine ⟨⟨?_, ?_, ?_, ?_, ?_, ?_, ?_, ?_, ?_, ?_, ?_, ?_, ?_, ?_⟩, ?_, ?_, ⟨?_, ?_⟩, ⟨?_, ?_⟩, ?_, ?_⟩
  · rw [hk 4 (by omega)]; exact m1
  · rw [e104]; exact m2
  · rw [hk 6 (by omega)]; exact m3
  · rw [e105]; exact m4
  · rw [e106]; exact m5
  · rw [e107]; exact m6
  · rw [e108]; exact m7
  · rw [e109]; exact m8
  · rw [e110]; exact m9
  · rw [e111]; exact m10
  · rw [e112]; exact m11
  · rw [hk 15 (by omega)]; exact m12
  · rw [hk 16 (by omega)]; exact m13
  · rw [hk 17 (by omega)]; exact m14
  · rw [hk 25 (by omega)]; exact n
  · intro i s hs
    have := A i s hs
    unfold cP at this ⊢
    rw [e117]; exact this
  · rw [e119]; exact l1
  · intro s ix hs
    have := l2 s ix hs
    unfold cP at this ⊢
    rw [e118]; exact this
  · rw [e119]; exact i1
  · intro s ix hs
    have := i2 s ix hs
    unfold cP at this ⊢
    rw [e118]; exact this
  · rw [hk 2 (by omega)]; exact N
  · rw [e103]; exact Y
/-- 'thrown' and the like are nobody's -/
theorem cD.st {h : PvH} {x : SX} (M : cD h x) {k : Nat} {v : Int32} (hk : ¬ (k = 2 ∨ k = 4 ∨ k = 6 ∨ k = 15 ∨ k = 16 ∨ k = 17 ∨ k = 25)) : cD (pv_st h 102 k v) x := M.fr (fun o h1 _ => st_o (by omega)) (fun j hj => st_k (fun e => hk (e ▸ hj)))
theorem cD.t0 {h : PvH} {x : SX} (M : cD h x) : cD (pv_st h 102 0 0) x := M.st (by omega)
theorem pv_x {x : SX} : x = (xT x, xS x, xI x, xA x, xLo x, xHi x, xN x, xX x) := rfl
/-- what the class's relation reads -/
theorem cS.fr {h h' : PvH} {o R : Nat} {s : SS} (S : cS h o R s) (h0 : h' o = h o) (h1 : h' (o + 1) = h (o + 1)) (h2 : h' (o + 2) = h (o + 2)) (h3 : h' (o + 3) = h (o + 3)) : cS h' o R s := by
  unfold cS at S ⊢
  rw [h0, h1, h2, h3]
  exact S
theorem cT.fr {h h' : PvH} {o : Nat} {t : ST} (T : cT h o t) (hh : ∀ a, o ≤ a → a ≤ o + 7 → h' a = h a) : cT h' o t := by
  unfold cT at T ⊢
  rw [hh o (by omega) (by omega), hh (o + 1) (by omega) (by omega), hh (o + 2) (by omega) (by omega), hh (o + 4) (by omega) (by omega), hh (o + 7) (by omega) (by omega)]
  exact T
theorem cK.fr {h h' : PvH} {o so io R : Nat} {k : Option (SS × (Nat → Nat))} (K : cK h o so io R k) (h0 : h' o 0 = h o 0) (h1 : h' so = h so) (h2 : h' (so + 1) = h (so + 1)) (h3 : h' (so + 2) = h (so + 2)) (h4 : h' (so + 3) = h (so + 3)) (h5 : h' io = h io) : cK h' o so io R k := by
  obtain ⟨a, b⟩ := K
  exact ⟨by rw [h0]; exact a, fun s ix hs => ⟨(b s ix hs).1.fr h1 h2 h3 h4, by rw [h5]; exact (b s ix hs).2⟩⟩
/-- a row's standing lies in 27 .. 66 -/
theorem gC.q4 {g : PvG} {rt tt : Nat} {q : Nat → Nat} (G : gC g rt tt q) {i : Nat} (hi : i < 10) : 27 ≤ q i ∧ q i ≤ 63 := by
  obtain ⟨j, h1, h2⟩ := G.qj i hi
  omega
theorem cC.fr {h h' : PvH} {g : PvG} {rt tt : Nat} {q : Nat → Nat} {x : SX} (G : gC g rt tt q) (C : cC h rt q x) (O : okX x) (ho : ∀ o, o = 1 ∨ (rt ≤ o ∧ o ≤ rt + 7) ∨ (20 ≤ o ∧ o ≤ 24) ∨ (27 ≤ o ∧ o ≤ 66) ∨ (68 ≤ o ∧ o ≤ 72) ∨ (74 ≤ o ∧ o ≤ 78) ∨ (89 ≤ o ∧ o ≤ 91) ∨ o = 100 → h' o = h o) (hk : h' 0 1 = h 0 1 ∧ h' 25 1 = h 25 1 ∧ h' 67 0 = h 67 0 ∧ h' 73 0 = h 73 0) : cC h' rt q x := by
  obtain ⟨T, S, X, n, A, lo, hi, N, Y, z, zl⟩ := C
  refine ⟨T.fr (fun a h1 h2 => ho a (by omega)), S.fr (ho 20 (by omega)) (ho 21 (by omega)) (ho 22 (by omega)) (ho 23 (by omega)), ?_, ?_, ?_, lo.fr hk.2.2.1 (ho 68 (by omega)) (ho 69 (by omega)) (ho 70 (by omega)) (ho 71 (by omega)) (ho 72 (by omega)), hi.fr hk.2.2.2 (ho 74 (by omega)) (ho 75 (by omega)) (ho 76 (by omega)) (ho 77 (by omega)) (ho 78 (by omega)), ?_, ?_, ?_, ?_⟩
  · rw [ho 24 (by omega)]; exact X
  · rw [hk.2.1]; exact n
  · intro i s hs
    have hi10 : i < 10 := Nat.lt_of_lt_of_le (List.getElem?_eq_some_iff.mp hs).1 O.2.2.2.1
    have q4 := G.q4 hi10
    exact (A i s hs).fr (ho _ (by omega)) (ho _ (by omega)) (ho _ (by omega)) (ho _ (by omega))
  · rw [hk.1]; exact N
  · rw [ho 1 (by omega)]; exact Y
  · rw [ho 100 (by omega)]; exact z
  · intro e f he hf
    rw [ho _ (by omega)]; exact zl e f he hf
