/-! MODEL: what lies where (by program, wip/whole/lay.py) -/
def gM (g : PvG) : Prop := ((pv_tg g 102).1 = 10) ∧ (pv_rf g 102 1 = some 103) ∧ (pv_rf g 102 5 = some 104) ∧ (pv_rf g 102 7 = some 105) ∧ (pv_rf g 102 8 = some 106) ∧ (pv_rf g 102 9 = some 107) ∧ (pv_rf g 102 10 = some 108) ∧ (pv_rf g 102 11 = some 109) ∧ (pv_rf g 102 12 = some 110) ∧ (pv_rf g 102 13 = some 111) ∧ (pv_rf g 102 14 = some 112) ∧ (pv_rf g 102 19 = some 113) ∧ (pv_rf g 102 20 = some 114) ∧ (pv_rf g 102 22 = some 115) ∧ (pv_rf g 102 23 = some 116) ∧ (pv_rf g 102 24 = some 117) ∧ (pv_rf g 102 26 = some 118) ∧ (pv_rf g 102 27 = some 119) ∧ (pv_rf g 102 28 = some 120) ∧ (pv_rf g 102 29 = some 121) ∧ (pv_rf g 102 30 = some 122) ∧ (pv_rf g 102 31 = some 123) ∧ (pv_rf g 102 34 = some 124) ∧ (pv_rf g 102 35 = some 125) ∧ (pv_rf g 102 36 = some 126) ∧ (pv_tg g 103 = (100, 76)) ∧ (pv_tg g 104 = (100, 5)) ∧ (pv_tg g 105 = (100, 8)) ∧ (pv_tg g 106 = (100, 8)) ∧ (pv_tg g 107 = (100, 8)) ∧ (pv_tg g 108 = (100, 8)) ∧ (pv_tg g 109 = (100, 8)) ∧ (pv_tg g 110 = (101, 8)) ∧ (pv_tg g 111 = (100, 8)) ∧ (pv_tg g 112 = (101, 64)) ∧ (pv_tg g 113 = (100, 5)) ∧ (pv_tg g 114 = (100, 5)) ∧ (pv_tg g 115 = (100, 40)) ∧ (pv_tg g 116 = (101, 64)) ∧ (pv_tg g 117 = (100, 350)) ∧ (pv_tg g 118 = (100, 86)) ∧ (pv_tg g 119 = (101, 2)) ∧ (pv_tg g 120 = (100, 32)) ∧ (pv_tg g 121 = (100, 32)) ∧ (pv_tg g 122 = (101, 32)) ∧ (pv_tg g 123 = (100, 4)) ∧ (pv_tg g 124 = (100, 8)) ∧ (pv_tg g 125 = (100, 8)) ∧ (pv_tg g 126 = (100, 5))
theorem gM.o {g : PvG} (G : gM g) : (pv_tg g 102).1 = 10 := G.1
theorem gM.r1 {g : PvG} (G : gM g) : pv_rf g 102 1 = some 103 := G.2.1
theorem gM.r5 {g : PvG} (G : gM g) : pv_rf g 102 5 = some 104 := G.2.2.1
theorem gM.r7 {g : PvG} (G : gM g) : pv_rf g 102 7 = some 105 := G.2.2.2.1
theorem gM.r8 {g : PvG} (G : gM g) : pv_rf g 102 8 = some 106 := G.2.2.2.2.1
theorem gM.r9 {g : PvG} (G : gM g) : pv_rf g 102 9 = some 107 := G.2.2.2.2.2.1
theorem gM.r10 {g : PvG} (G : gM g) : pv_rf g 102 10 = some 108 := G.2.2.2.2.2.2.1
theorem gM.r11 {g : PvG} (G : gM g) : pv_rf g 102 11 = some 109 := G.2.2.2.2.2.2.2.1
theorem gM.r12 {g : PvG} (G : gM g) : pv_rf g 102 12 = some 110 := G.2.2.2.2.2.2.2.2.1
theorem gM.r13 {g : PvG} (G : gM g) : pv_rf g 102 13 = some 111 := G.2.2.2.2.2.2.2.2.2.1
theorem gM.r14 {g : PvG} (G : gM g) : pv_rf g 102 14 = some 112 := G.2.2.2.2.2.2.2.2.2.2.1
theorem gM.r19 {g : PvG} (G : gM g) : pv_rf g 102 19 = some 113 := G.2.2.2.2.2.2.2.2.2.2.2.1
theorem gM.r20 {g : PvG} (G : gM g) : pv_rf g 102 20 = some 114 := G.2.2.2.2.2.2.2.2.2.2.2.2.1
theorem gM.r22 {g : PvG} (G : gM g) : pv_rf g 102 22 = some 115 := G.2.2.2.2.2.2.2.2.2.2.2.2.2.1
theorem gM.r23 {g : PvG} (G : gM g) : pv_rf g 102 23 = some 116 := G.2.2.2.2.2.2.2.2.2.2.2.2.2.2.1
theorem gM.r24 {g : PvG} (G : gM g) : pv_rf g 102 24 = some 117 := G.2.2.2.2.2.2.2.2.2.2.2.2.2.2.2.1
theorem gM.r26 {g : PvG} (G : gM g) : pv_rf g 102 26 = some 118 := G.2.2.2.2.2.2.2.2.2.2.2.2.2.2.2.2.1
theorem gM.r27 {g : PvG} (G : gM g) : pv_rf g 102 27 = some 119 := G.2.2.2.2.2.2.2.2.2.2.2.2.2.2.2.2.2.1
theorem gM.r28 {g : PvG} (G : gM g) : pv_rf g 102 28 = some 120 := G.2.2.2.2.2.2.2.2.2.2.2.2.2.2.2.2.2.2.1
theorem gM.r29 {g : PvG} (G : gM g) : pv_rf g 102 29 = some 121 := G.2.2.2.2.2.2.2.2.2.2.2.2.2.2.2.2.2.2.2.1
theorem gM.r30 {g : PvG} (G : gM g) : pv_rf g 102 30 = some 122 := G.2.2.2.2.2.2.2.2.2.2.2.2.2.2.2.2.2.2.2.2.1
theorem gM.r31 {g : PvG} (G : gM g) : pv_rf g 102 31 = some 123 := G.2.2.2.2.2.2.2.2.2.2.2.2.2.2.2.2.2.2.2.2.2.1
theorem gM.r34 {g : PvG} (G : gM g) : pv_rf g 102 34 = some 124 := G.2.2.2.2.2.2.2.2.2.2.2.2.2.2.2.2.2.2.2.2.2.2.1
theorem gM.r35 {g : PvG} (G : gM g) : pv_rf g 102 35 = some 125 := G.2.2.2.2.2.2.2.2.2.2.2.2.2.2.2.2.2.2.2.2.2.2.2.1
theorem gM.r36 {g : PvG} (G : gM g) : pv_rf g 102 36 = some 126 := G.2.2.2.2.2.2.2.2.2.2.2.2.2.2.2.2.2.2.2.2.2.2.2.2.1
theorem gM.t103 {g : PvG} (G : gM g) : pv_tg g 103 = (100, 76) := G.2.2.2.2.2.2.2.2.2.2.2.2.2.2.2.2.2.2.2.2.2.2.2.2.2.1
theorem gM.t104 {g : PvG} (G : gM g) : pv_tg g 104 = (100, 5) := G.2.2.2.2.2.2.2.2.2.2.2.2.2.2.2.2.2.2.2.2.2.2.2.2.2.2.1
theorem gM.t105 {g : PvG} (G : gM g) : pv_tg g 105 = (100, 8) := G.2.2.2.2.2.2.2.2.2.2.2.2.2.2.2.2.2.2.2.2.2.2.2.2.2.2.2.1
theorem gM.t106 {g : PvG} (G : gM g) : pv_tg g 106 = (100, 8) := G.2.2.2.2.2.2.2.2.2.2.2.2.2.2.2.2.2.2.2.2.2.2.2.2.2.2.2.2.1
theorem gM.t107 {g : PvG} (G : gM g) : pv_tg g 107 = (100, 8) := G.2.2.2.2.2.2.2.2.2.2.2.2.2.2.2.2.2.2.2.2.2.2.2.2.2.2.2.2.2.1
theorem gM.t108 {g : PvG} (G : gM g) : pv_tg g 108 = (100, 8) := G.2.2.2.2.2.2.2.2.2.2.2.2.2.2.2.2.2.2.2.2.2.2.2.2.2.2.2.2.2.2.1
theorem gM.t109 {g : PvG} (G : gM g) : pv_tg g 109 = (100, 8) := G.2.2.2.2.2.2.2.2.2.2.2.2.2.2.2.2.2.2.2.2.2.2.2.2.2.2.2.2.2.2.2.1
theorem gM.t110 {g : PvG} (G : gM g) : pv_tg g 110 = (101, 8) := G.2.2.2.2.2.2.2.2.2.2.2.2.2.2.2.2.2.2.2.2.2.2.2.2.2.2.2.2.2.2.2.2.1
theorem gM.t111 {g : PvG} (G : gM g) : pv_tg g 111 = (100, 8) := G.2.2.2.2.2.2.2.2.2.2.2.2.2.2.2.2.2.2.2.2.2.2.2.2.2.2.2.2.2.2.2.2.2.1
theorem gM.t112 {g : PvG} (G : gM g) : pv_tg g 112 = (101, 64) := G.2.2.2.2.2.2.2.2.2.2.2.2.2.2.2.2.2.2.2.2.2.2.2.2.2.2.2.2.2.2.2.2.2.2.1
theorem gM.t113 {g : PvG} (G : gM g) : pv_tg g 113 = (100, 5) := G.2.2.2.2.2.2.2.2.2.2.2.2.2.2.2.2.2.2.2.2.2.2.2.2.2.2.2.2.2.2.2.2.2.2.2.1
theorem gM.t114 {g : PvG} (G : gM g) : pv_tg g 114 = (100, 5) := G.2.2.2.2.2.2.2.2.2.2.2.2.2.2.2.2.2.2.2.2.2.2.2.2.2.2.2.2.2.2.2.2.2.2.2.2.1
theorem gM.t115 {g : PvG} (G : gM g) : pv_tg g 115 = (100, 40) := G.2.2.2.2.2.2.2.2.2.2.2.2.2.2.2.2.2.2.2.2.2.2.2.2.2.2.2.2.2.2.2.2.2.2.2.2.2.1
theorem gM.t116 {g : PvG} (G : gM g) : pv_tg g 116 = (101, 64) := G.2.2.2.2.2.2.2.2.2.2.2.2.2.2.2.2.2.2.2.2.2.2.2.2.2.2.2.2.2.2.2.2.2.2.2.2.2.2.1
theorem gM.t117 {g : PvG} (G : gM g) : pv_tg g 117 = (100, 350) := G.2.2.2.2.2.2.2.2.2.2.2.2.2.2.2.2.2.2.2.2.2.2.2.2.2.2.2.2.2.2.2.2.2.2.2.2.2.2.2.1
theorem gM.t118 {g : PvG} (G : gM g) : pv_tg g 118 = (100, 86) := G.2.2.2.2.2.2.2.2.2.2.2.2.2.2.2.2.2.2.2.2.2.2.2.2.2.2.2.2.2.2.2.2.2.2.2.2.2.2.2.2.1
theorem gM.t119 {g : PvG} (G : gM g) : pv_tg g 119 = (101, 2) := G.2.2.2.2.2.2.2.2.2.2.2.2.2.2.2.2.2.2.2.2.2.2.2.2.2.2.2.2.2.2.2.2.2.2.2.2.2.2.2.2.2.1
theorem gM.t120 {g : PvG} (G : gM g) : pv_tg g 120 = (100, 32) := G.2.2.2.2.2.2.2.2.2.2.2.2.2.2.2.2.2.2.2.2.2.2.2.2.2.2.2.2.2.2.2.2.2.2.2.2.2.2.2.2.2.2.1
theorem gM.t121 {g : PvG} (G : gM g) : pv_tg g 121 = (100, 32) := G.2.2.2.2.2.2.2.2.2.2.2.2.2.2.2.2.2.2.2.2.2.2.2.2.2.2.2.2.2.2.2.2.2.2.2.2.2.2.2.2.2.2.2.1
theorem gM.t122 {g : PvG} (G : gM g) : pv_tg g 122 = (101, 32) := G.2.2.2.2.2.2.2.2.2.2.2.2.2.2.2.2.2.2.2.2.2.2.2.2.2.2.2.2.2.2.2.2.2.2.2.2.2.2.2.2.2.2.2.2.1
theorem gM.t123 {g : PvG} (G : gM g) : pv_tg g 123 = (100, 4) := G.2.2.2.2.2.2.2.2.2.2.2.2.2.2.2.2.2.2.2.2.2.2.2.2.2.2.2.2.2.2.2.2.2.2.2.2.2.2.2.2.2.2.2.2.2.1
theorem gM.t124 {g : PvG} (G : gM g) : pv_tg g 124 = (100, 8) := G.2.2.2.2.2.2.2.2.2.2.2.2.2.2.2.2.2.2.2.2.2.2.2.2.2.2.2.2.2.2.2.2.2.2.2.2.2.2.2.2.2.2.2.2.2.2.1
theorem gM.t125 {g : PvG} (G : gM g) : pv_tg g 125 = (100, 8) := G.2.2.2.2.2.2.2.2.2.2.2.2.2.2.2.2.2.2.2.2.2.2.2.2.2.2.2.2.2.2.2.2.2.2.2.2.2.2.2.2.2.2.2.2.2.2.2.1
theorem gM.t126 {g : PvG} (G : gM g) : pv_tg g 126 = (100, 5) := G.2.2.2.2.2.2.2.2.2.2.2.2.2.2.2.2.2.2.2.2.2.2.2.2.2.2.2.2.2.2.2.2.2.2.2.2.2.2.2.2.2.2.2.2.2.2.2.2
def cM (h : PvH) (t : ST) (s : SS) (ix : Nat → Nat) : Prop := (h 102 4 = nI (tF t)) ∧ (∀ f, f < tF t → h 104 f = nI (tB t f)) ∧ (h 102 6 = nI (tR t)) ∧ (∀ r, r < tR t → h 105 r = nI (tW t r)) ∧ (∀ r, r < tR t → h 106 r = nI (sV s r)) ∧ (∀ r, r < tR t → h 107 r = nI (tA t r)) ∧ (∀ r, r < tR t → h 108 r = nI (sK s r)) ∧ (∀ r, r < tR t → h 109 r = nI (sP s r)) ∧ (∀ r, r < tR t → h 110 r = pv_b ((sD s).testBit r)) ∧ (∀ r, r < tR t → h 111 r = nI (ix r)) ∧ (∀ r o, r < tR t → o < tR t → h 112 (8 * r + o) = pv_b ((tC t r).testBit o)) ∧ (h 102 15 = nI (sH s)) ∧ (h 102 16 = nI (sE s)) ∧ (h 102 17 = nI (sL s))
theorem cM.F {h : PvH} {t : ST} {s : SS} {ix : Nat → Nat} (G : cM h t s ix) : h 102 4 = nI (tF t) := G.1
theorem cM.B {h : PvH} {t : ST} {s : SS} {ix : Nat → Nat} (G : cM h t s ix) : ∀ f, f < tF t → h 104 f = nI (tB t f) := G.2.1
theorem cM.R {h : PvH} {t : ST} {s : SS} {ix : Nat → Nat} (G : cM h t s ix) : h 102 6 = nI (tR t) := G.2.2.1
theorem cM.W {h : PvH} {t : ST} {s : SS} {ix : Nat → Nat} (G : cM h t s ix) : ∀ r, r < tR t → h 105 r = nI (tW t r) := G.2.2.2.1
theorem cM.V {h : PvH} {t : ST} {s : SS} {ix : Nat → Nat} (G : cM h t s ix) : ∀ r, r < tR t → h 106 r = nI (sV s r) := G.2.2.2.2.1
theorem cM.A {h : PvH} {t : ST} {s : SS} {ix : Nat → Nat} (G : cM h t s ix) : ∀ r, r < tR t → h 107 r = nI (tA t r) := G.2.2.2.2.2.1
theorem cM.K {h : PvH} {t : ST} {s : SS} {ix : Nat → Nat} (G : cM h t s ix) : ∀ r, r < tR t → h 108 r = nI (sK s r) := G.2.2.2.2.2.2.1
theorem cM.P {h : PvH} {t : ST} {s : SS} {ix : Nat → Nat} (G : cM h t s ix) : ∀ r, r < tR t → h 109 r = nI (sP s r) := G.2.2.2.2.2.2.2.1
theorem cM.D {h : PvH} {t : ST} {s : SS} {ix : Nat → Nat} (G : cM h t s ix) : ∀ r, r < tR t → h 110 r = pv_b ((sD s).testBit r) := G.2.2.2.2.2.2.2.2.1
theorem cM.X {h : PvH} {t : ST} {s : SS} {ix : Nat → Nat} (G : cM h t s ix) : ∀ r, r < tR t → h 111 r = nI (ix r) := G.2.2.2.2.2.2.2.2.2.1
theorem cM.C {h : PvH} {t : ST} {s : SS} {ix : Nat → Nat} (G : cM h t s ix) : ∀ r o, r < tR t → o < tR t → h 112 (8 * r + o) = pv_b ((tC t r).testBit o) := G.2.2.2.2.2.2.2.2.2.2.1
theorem cM.H {h : PvH} {t : ST} {s : SS} {ix : Nat → Nat} (G : cM h t s ix) : h 102 15 = nI (sH s) := G.2.2.2.2.2.2.2.2.2.2.2.1
theorem cM.E {h : PvH} {t : ST} {s : SS} {ix : Nat → Nat} (G : cM h t s ix) : h 102 16 = nI (sE s) := G.2.2.2.2.2.2.2.2.2.2.2.2.1
theorem cM.L {h : PvH} {t : ST} {s : SS} {ix : Nat → Nat} (G : cM h t s ix) : h 102 17 = nI (sL s) := G.2.2.2.2.2.2.2.2.2.2.2.2.2
