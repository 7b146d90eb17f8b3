/-! CLASS: what lies where; THE WHOLE STATE and what the heap holds of it (by program, wip/whole/lay2.py) -/
def gC (g : PvG) (rt tt : Nat) (q : Nat → Nat) : Prop := ((pv_tg g 0).1 = 9) ∧ ((pv_tg g 2).1 = 4) ∧ ((pv_tg g 25).1 = 0) ∧ ((pv_tg g 67).1 = 5) ∧ ((pv_tg g 73).1 = 5) ∧ ((pv_tg g 79).1 = 8) ∧ ((pv_tg g 84).1 = 3) ∧ ((pv_tg g 99).1 = 1) ∧ ((pv_tg g 101).1 = 2) ∧ (pv_rf g 0 0 = some 1) ∧ (pv_rf g 0 2 = some 2) ∧ (pv_rf g 0 3 = some rt) ∧ (pv_rf g 0 4 = some 20) ∧ (pv_rf g 0 5 = some 24) ∧ (pv_rf g 0 6 = some 25) ∧ (pv_rf g 0 7 = some 67) ∧ (pv_rf g 0 8 = some 73) ∧ (pv_rf g 0 9 = some 79) ∧ (pv_rf g 0 10 = some 84) ∧ (pv_rf g 0 11 = some 99) ∧ (pv_rf g 0 12 = some 101) ∧ (pv_rf g 2 0 = some tt) ∧ (pv_rf g 2 4 = some 11) ∧ (pv_rf g 25 0 = some 26) ∧ (pv_rf g 67 1 = some 68) ∧ (pv_rf g 67 2 = some 72) ∧ (pv_rf g 73 1 = some 74) ∧ (pv_rf g 73 2 = some 78) ∧ (pv_rf g 79 1 = some 80) ∧ (pv_rf g 79 2 = some 81) ∧ (pv_rf g 79 3 = some 82) ∧ (pv_rf g 79 4 = some 83) ∧ (pv_rf g 84 2 = some 85) ∧ (pv_rf g 84 7 = some 86) ∧ (pv_rf g 84 8 = some 87) ∧ (pv_rf g 84 9 = some 88) ∧ (pv_rf g 84 10 = some 92) ∧ (pv_rf g 84 11 = some 97) ∧ (pv_rf g 84 12 = some 98) ∧ (pv_rf g 88 0 = some 89) ∧ (pv_rf g 88 1 = some 90) ∧ (pv_rf g 88 2 = some 91) ∧ (pv_rf g 92 0 = some 93) ∧ (pv_rf g 92 1 = some 94) ∧ (pv_rf g 92 2 = some 95) ∧ (pv_rf g 92 3 = some 96) ∧ (pv_rf g 99 4 = some 100) ∧ (pv_tg g 1 = (100, 76)) ∧ (pv_tg g 11 = (100, 5)) ∧ (pv_tg g 24 = (100, 8)) ∧ (pv_tg g 26 = (102, 10)) ∧ (pv_tg g 72 = (100, 8)) ∧ (pv_tg g 78 = (100, 8)) ∧ (pv_tg g 80 = (100, 8)) ∧ (pv_tg g 81 = (100, 8)) ∧ (pv_tg g 82 = (100, 8)) ∧ (pv_tg g 83 = (100, 8)) ∧ (pv_tg g 85 = (100, 4)) ∧ (pv_tg g 86 = (100, 5)) ∧ (pv_tg g 87 = (100, 3)) ∧ (pv_tg g 88 = (103, 3)) ∧ (pv_tg g 89 = (100, 5)) ∧ (pv_tg g 90 = (100, 5)) ∧ (pv_tg g 91 = (100, 5)) ∧ (pv_tg g 92 = (103, 4)) ∧ (pv_tg g 93 = (100, 4)) ∧ (pv_tg g 94 = (100, 4)) ∧ (pv_tg g 95 = (100, 4)) ∧ (pv_tg g 96 = (100, 4)) ∧ (pv_tg g 97 = (100, 12)) ∧ (pv_tg g 98 = (100, 12)) ∧ (pv_tg g 100 = (100, 5)) ∧ (gT g 3) ∧ (gT g 12) ∧ (gS g 20) ∧ (gS g 68) ∧ (gS g 74) ∧ (∀ j, j < 10 → gS g (27 + 4 * j)) ∧ (∀ i, i < 10 → pv_rf g 26 i = some (q i)) ∧ (∀ i, i < 10 → ∃ j, j < 10 ∧ q i = 27 + 4 * j) ∧ (∀ i j, i < 10 → j < 10 → q i = q j → i = j) ∧ ((rt = 3 ∧ tt = 12) ∨ (rt = 12 ∧ tt = 3))
theorem gC.o0 {g : PvG} {rt tt : Nat} {q : Nat → Nat} (G : gC g rt tt q) : (pv_tg g 0).1 = 9 := G.1
theorem gC.o2 {g : PvG} {rt tt : Nat} {q : Nat → Nat} (G : gC g rt tt q) : (pv_tg g 2).1 = 4 := G.2.1
theorem gC.o25 {g : PvG} {rt tt : Nat} {q : Nat → Nat} (G : gC g rt tt q) : (pv_tg g 25).1 = 0 := G.2.2.1
theorem gC.o67 {g : PvG} {rt tt : Nat} {q : Nat → Nat} (G : gC g rt tt q) : (pv_tg g 67).1 = 5 := G.2.2.2.1
theorem gC.o73 {g : PvG} {rt tt : Nat} {q : Nat → Nat} (G : gC g rt tt q) : (pv_tg g 73).1 = 5 := G.2.2.2.2.1
theorem gC.o79 {g : PvG} {rt tt : Nat} {q : Nat → Nat} (G : gC g rt tt q) : (pv_tg g 79).1 = 8 := G.2.2.2.2.2.1
theorem gC.o84 {g : PvG} {rt tt : Nat} {q : Nat → Nat} (G : gC g rt tt q) : (pv_tg g 84).1 = 3 := G.2.2.2.2.2.2.1
theorem gC.o99 {g : PvG} {rt tt : Nat} {q : Nat → Nat} (G : gC g rt tt q) : (pv_tg g 99).1 = 1 := G.2.2.2.2.2.2.2.1
theorem gC.o101 {g : PvG} {rt tt : Nat} {q : Nat → Nat} (G : gC g rt tt q) : (pv_tg g 101).1 = 2 := G.2.2.2.2.2.2.2.2.1
theorem gC.r0_0 {g : PvG} {rt tt : Nat} {q : Nat → Nat} (G : gC g rt tt q) : pv_rf g 0 0 = some 1 := G.2.2.2.2.2.2.2.2.2.1
theorem gC.r0_2 {g : PvG} {rt tt : Nat} {q : Nat → Nat} (G : gC g rt tt q) : pv_rf g 0 2 = some 2 := G.2.2.2.2.2.2.2.2.2.2.1
theorem gC.r0_3 {g : PvG} {rt tt : Nat} {q : Nat → Nat} (G : gC g rt tt q) : pv_rf g 0 3 = some rt := G.2.2.2.2.2.2.2.2.2.2.2.1
theorem gC.r0_4 {g : PvG} {rt tt : Nat} {q : Nat → Nat} (G : gC g rt tt q) : pv_rf g 0 4 = some 20 := G.2.2.2.2.2.2.2.2.2.2.2.2.1
theorem gC.r0_5 {g : PvG} {rt tt : Nat} {q : Nat → Nat} (G : gC g rt tt q) : pv_rf g 0 5 = some 24 := G.2.2.2.2.2.2.2.2.2.2.2.2.2.1
theorem gC.r0_6 {g : PvG} {rt tt : Nat} {q : Nat → Nat} (G : gC g rt tt q) : pv_rf g 0 6 = some 25 := G.2.2.2.2.2.2.2.2.2.2.2.2.2.2.1
theorem gC.r0_7 {g : PvG} {rt tt : Nat} {q : Nat → Nat} (G : gC g rt tt q) : pv_rf g 0 7 = some 67 := G.2.2.2.2.2.2.2.2.2.2.2.2.2.2.2.1
theorem gC.r0_8 {g : PvG} {rt tt : Nat} {q : Nat → Nat} (G : gC g rt tt q) : pv_rf g 0 8 = some 73 := G.2.2.2.2.2.2.2.2.2.2.2.2.2.2.2.2.1
theorem gC.r0_9 {g : PvG} {rt tt : Nat} {q : Nat → Nat} (G : gC g rt tt q) : pv_rf g 0 9 = some 79 := G.2.2.2.2.2.2.2.2.2.2.2.2.2.2.2.2.2.1
theorem gC.r0_10 {g : PvG} {rt tt : Nat} {q : Nat → Nat} (G : gC g rt tt q) : pv_rf g 0 10 = some 84 := G.2.2.2.2.2.2.2.2.2.2.2.2.2.2.2.2.2.2.1
theorem gC.r0_11 {g : PvG} {rt tt : Nat} {q : Nat → Nat} (G : gC g rt tt q) : pv_rf g 0 11 = some 99 := G.2.2.2.2.2.2.2.2.2.2.2.2.2.2.2.2.2.2.2.1
theorem gC.r0_12 {g : PvG} {rt tt : Nat} {q : Nat → Nat} (G : gC g rt tt q) : pv_rf g 0 12 = some 101 := G.2.2.2.2.2.2.2.2.2.2.2.2.2.2.2.2.2.2.2.2.1
theorem gC.r2_0 {g : PvG} {rt tt : Nat} {q : Nat → Nat} (G : gC g rt tt q) : pv_rf g 2 0 = some tt := G.2.2.2.2.2.2.2.2.2.2.2.2.2.2.2.2.2.2.2.2.2.1
theorem gC.r2_4 {g : PvG} {rt tt : Nat} {q : Nat → Nat} (G : gC g rt tt q) : pv_rf g 2 4 = some 11 := G.2.2.2.2.2.2.2.2.2.2.2.2.2.2.2.2.2.2.2.2.2.2.1
theorem gC.r25_0 {g : PvG} {rt tt : Nat} {q : Nat → Nat} (G : gC g rt tt q) : pv_rf g 25 0 = some 26 := G.2.2.2.2.2.2.2.2.2.2.2.2.2.2.2.2.2.2.2.2.2.2.2.1
theorem gC.r67_1 {g : PvG} {rt tt : Nat} {q : Nat → Nat} (G : gC g rt tt q) : pv_rf g 67 1 = some 68 := G.2.2.2.2.2.2.2.2.2.2.2.2.2.2.2.2.2.2.2.2.2.2.2.2.1
theorem gC.r67_2 {g : PvG} {rt tt : Nat} {q : Nat → Nat} (G : gC g rt tt q) : pv_rf g 67 2 = some 72 := G.2.2.2.2.2.2.2.2.2.2.2.2.2.2.2.2.2.2.2.2.2.2.2.2.2.1
theorem gC.r73_1 {g : PvG} {rt tt : Nat} {q : Nat → Nat} (G : gC g rt tt q) : pv_rf g 73 1 = some 74 := G.2.2.2.2.2.2.2.2.2.2.2.2.2.2.2.2.2.2.2.2.2.2.2.2.2.2.1
theorem gC.r73_2 {g : PvG} {rt tt : Nat} {q : Nat → Nat} (G : gC g rt tt q) : pv_rf g 73 2 = some 78 := G.2.2.2.2.2.2.2.2.2.2.2.2.2.2.2.2.2.2.2.2.2.2.2.2.2.2.2.1
theorem gC.r79_1 {g : PvG} {rt tt : Nat} {q : Nat → Nat} (G : gC g rt tt q) : pv_rf g 79 1 = some 80 := G.2.2.2.2.2.2.2.2.2.2.2.2.2.2.2.2.2.2.2.2.2.2.2.2.2.2.2.2.1
theorem gC.r79_2 {g : PvG} {rt tt : Nat} {q : Nat → Nat} (G : gC g rt tt q) : pv_rf g 79 2 = some 81 := G.2.2.2.2.2.2.2.2.2.2.2.2.2.2.2.2.2.2.2.2.2.2.2.2.2.2.2.2.2.1
theorem gC.r79_3 {g : PvG} {rt tt : Nat} {q : Nat → Nat} (G : gC g rt tt q) : pv_rf g 79 3 = some 82 := G.2.2.2.2.2.2.2.2.2.2.2.2.2.2.2.2.2.2.2.2.2.2.2.2.2.2.2.2.2.2.1
theorem gC.r79_4 {g : PvG} {rt tt : Nat} {q : Nat → Nat} (G : gC g rt tt q) : pv_rf g 79 4 = some 83 := G.2.2.2.2.2.2.2.2.2.2.2.2.2.2.2.2.2.2.2.2.2.2.2.2.2.2.2.2.2.2.2.1
theorem gC.r84_2 {g : PvG} {rt tt : Nat} {q : Nat → Nat} (G : gC g rt tt q) : pv_rf g 84 2 = some 85 := G.2.2.2.2.2.2.2.2.2.2.2.2.2.2.2.2.2.2.2.2.2.2.2.2.2.2.2.2.2.2.2.2.1
theorem gC.r84_7 {g : PvG} {rt tt : Nat} {q : Nat → Nat} (G : gC g rt tt q) : pv_rf g 84 7 = some 86 := G.2.2.2.2.2.2.2.2.2.2.2.2.2.2.2.2.2.2.2.2.2.2.2.2.2.2.2.2.2.2.2.2.2.1
theorem gC.r84_8 {g : PvG} {rt tt : Nat} {q : Nat → Nat} (G : gC g rt tt q) : pv_rf g 84 8 = some 87 := G.2.2.2.2.2.2.2.2.2.2.2.2.2.2.2.2.2.2.2.2.2.2.2.2.2.2.2.2.2.2.2.2.2.2.1
theorem gC.r84_9 {g : PvG} {rt tt : Nat} {q : Nat → Nat} (G : gC g rt tt q) : pv_rf g 84 9 = some 88 := G.2.2.2.2.2.2.2.2.2.2.2.2.2.2.2.2.2.2.2.2.2.2.2.2.2.2.2.2.2.2.2.2.2.2.2.1
theorem gC.r84_10 {g : PvG} {rt tt : Nat} {q : Nat → Nat} (G : gC g rt tt q) : pv_rf g 84 10 = some 92 := G.2.2.2.2.2.2.2.2.2.2.2.2.2.2.2.2.2.2.2.2.2.2.2.2.2.2.2.2.2.2.2.2.2.2.2.2.1
theorem gC.r84_11 {g : PvG} {rt tt : Nat} {q : Nat → Nat} (G : gC g rt tt q) : pv_rf g 84 11 = some 97 := G.2.2.2.2.2.2.2.2.2.2.2.2.2.2.2.2.2.2.2.2.2.2.2.2.2.2.2.2.2.2.2.2.2.2.2.2.2.1
theorem gC.r84_12 {g : PvG} {rt tt : Nat} {q : Nat → Nat} (G : gC g rt tt q) : pv_rf g 84 12 = some 98 := G.2.2.2.2.2.2.2.2.2.2.2.2.2.2.2.2.2.2.2.2.2.2.2.2.2.2.2.2.2.2.2.2.2.2.2.2.2.2.1
theorem gC.r88_0 {g : PvG} {rt tt : Nat} {q : Nat → Nat} (G : gC g rt tt q) : pv_rf g 88 0 = some 89 := G.2.2.2.2.2.2.2.2.2.2.2.2.2.2.2.2.2.2.2.2.2.2.2.2.2.2.2.2.2.2.2.2.2.2.2.2.2.2.2.1
theorem gC.r88_1 {g : PvG} {rt tt : Nat} {q : Nat → Nat} (G : gC g rt tt q) : pv_rf g 88 1 = some 90 := G.2.2.2.2.2.2.2.2.2.2.2.2.2.2.2.2.2.2.2.2.2.2.2.2.2.2.2.2.2.2.2.2.2.2.2.2.2.2.2.2.1
theorem gC.r88_2 {g : PvG} {rt tt : Nat} {q : Nat → Nat} (G : gC g rt tt q) : pv_rf g 88 2 = some 91 := G.2.2.2.2.2.2.2.2.2.2.2.2.2.2.2.2.2.2.2.2.2.2.2.2.2.2.2.2.2.2.2.2.2.2.2.2.2.2.2.2.2.1
theorem gC.r92_0 {g : PvG} {rt tt : Nat} {q : Nat → Nat} (G : gC g rt tt q) : pv_rf g 92 0 = some 93 := G.2.2.2.2.2.2.2.2.2.2.2.2.2.2.2.2.2.2.2.2.2.2.2.2.2.2.2.2.2.2.2.2.2.2.2.2.2.2.2.2.2.2.1
theorem gC.r92_1 {g : PvG} {rt tt : Nat} {q : Nat → Nat} (G : gC g rt tt q) : pv_rf g 92 1 = some 94 := G.2.2.2.2.2.2.2.2.2.2.2.2.2.2.2.2.2.2.2.2.2.2.2.2.2.2.2.2.2.2.2.2.2.2.2.2.2.2.2.2.2.2.2.1
theorem gC.r92_2 {g : PvG} {rt tt : Nat} {q : Nat → Nat} (G : gC g rt tt q) : pv_rf g 92 2 = some 95 := G.2.2.2.2.2.2.2.2.2.2.2.2.2.2.2.2.2.2.2.2.2.2.2.2.2.2.2.2.2.2.2.2.2.2.2.2.2.2.2.2.2.2.2.2.1
theorem gC.r92_3 {g : PvG} {rt tt : Nat} {q : Nat → Nat} (G : gC g rt tt q) : pv_rf g 92 3 = some 96 := G.2.2.2.2.2.2.2.2.2.2.2.2.2.2.2.2.2.2.2.2.2.2.2.2.2.2.2.2.2.2.2.2.2.2.2.2.2.2.2.2.2.2.2.2.2.1
theorem gC.r99_4 {g : PvG} {rt tt : Nat} {q : Nat → Nat} (G : gC g rt tt q) : pv_rf g 99 4 = some 100 := G.2.2.2.2.2.2.2.2.2.2.2.2.2.2.2.2.2.2.2.2.2.2.2.2.2.2.2.2.2.2.2.2.2.2.2.2.2.2.2.2.2.2.2.2.2.2.1
theorem gC.t1 {g : PvG} {rt tt : Nat} {q : Nat → Nat} (G : gC g rt tt q) : pv_tg g 1 = (100, 76) := G.2.2.2.2.2.2.2.2.2.2.2.2.2.2.2.2.2.2.2.2.2.2.2.2.2.2.2.2.2.2.2.2.2.2.2.2.2.2.2.2.2.2.2.2.2.2.2.1
theorem gC.t11 {g : PvG} {rt tt : Nat} {q : Nat → Nat} (G : gC g rt tt q) : pv_tg g 11 = (100, 5) := G.2.2.2.2.2.2.2.2.2.2.2.2.2.2.2.2.2.2.2.2.2.2.2.2.2.2.2.2.2.2.2.2.2.2.2.2.2.2.2.2.2.2.2.2.2.2.2.2.1
theorem gC.t24 {g : PvG} {rt tt : Nat} {q : Nat → Nat} (G : gC g rt tt q) : pv_tg g 24 = (100, 8) := G.2.2.2.2.2.2.2.2.2.2.2.2.2.2.2.2.2.2.2.2.2.2.2.2.2.2.2.2.2.2.2.2.2.2.2.2.2.2.2.2.2.2.2.2.2.2.2.2.2.1
theorem gC.t26 {g : PvG} {rt tt : Nat} {q : Nat → Nat} (G : gC g rt tt q) : pv_tg g 26 = (102, 10) := G.2.2.2.2.2.2.2.2.2.2.2.2.2.2.2.2.2.2.2.2.2.2.2.2.2.2.2.2.2.2.2.2.2.2.2.2.2.2.2.2.2.2.2.2.2.2.2.2.2.2.1
theorem gC.t72 {g : PvG} {rt tt : Nat} {q : Nat → Nat} (G : gC g rt tt q) : pv_tg g 72 = (100, 8) := G.2.2.2.2.2.2.2.2.2.2.2.2.2.2.2.2.2.2.2.2.2.2.2.2.2.2.2.2.2.2.2.2.2.2.2.2.2.2.2.2.2.2.2.2.2.2.2.2.2.2.2.1
theorem gC.t78 {g : PvG} {rt tt : Nat} {q : Nat → Nat} (G : gC g rt tt q) : pv_tg g 78 = (100, 8) := G.2.2.2.2.2.2.2.2.2.2.2.2.2.2.2.2.2.2.2.2.2.2.2.2.2.2.2.2.2.2.2.2.2.2.2.2.2.2.2.2.2.2.2.2.2.2.2.2.2.2.2.2.1
theorem gC.t80 {g : PvG} {rt tt : Nat} {q : Nat → Nat} (G : gC g rt tt q) : pv_tg g 80 = (100, 8) := G.2.2.2.2.2.2.2.2.2.2.2.2.2.2.2.2.2.2.2.2.2.2.2.2.2.2.2.2.2.2.2.2.2.2.2.2.2.2.2.2.2.2.2.2.2.2.2.2.2.2.2.2.2.1
theorem gC.t81 {g : PvG} {rt tt : Nat} {q : Nat → Nat} (G : gC g rt tt q) : pv_tg g 81 = (100, 8) := G.2.2.2.2.2.2.2.2.2.2.2.2.2.2.2.2.2.2.2.2.2.2.2.2.2.2.2.2.2.2.2.2.2.2.2.2.2.2.2.2.2.2.2.2.2.2.2.2.2.2.2.2.2.2.1
theorem gC.t82 {g : PvG} {rt tt : Nat} {q : Nat → Nat} (G : gC g rt tt q) : pv_tg g 82 = (100, 8) := G.2.2.2.2.2.2.2.2.2.2.2.2.2.2.2.2.2.2.2.2.2.2.2.2.2.2.2.2.2.2.2.2.2.2.2.2.2.2.2.2.2.2.2.2.2.2.2.2.2.2.2.2.2.2.2.1
theorem gC.t83 {g : PvG} {rt tt : Nat} {q : Nat → Nat} (G : gC g rt tt q) : pv_tg g 83 = (100, 8) := G.2.2.2.2.2.2.2.2.2.2.2.2.2.2.2.2.2.2.2.2.2.2.2.2.2.2.2.2.2.2.2.2.2.2.2.2.2.2.2.2.2.2.2.2.2.2.2.2.2.2.2.2.2.2.2.2.1
theorem gC.t85 {g : PvG} {rt tt : Nat} {q : Nat → Nat} (G : gC g rt tt q) : pv_tg g 85 = (100, 4) := G.2.2.2.2.2.2.2.2.2.2.2.2.2.2.2.2.2.2.2.2.2.2.2.2.2.2.2.2.2.2.2.2.2.2.2.2.2.2.2.2.2.2.2.2.2.2.2.2.2.2.2.2.2.2.2.2.2.1
theorem gC.t86 {g : PvG} {rt tt : Nat} {q : Nat → Nat} (G : gC g rt tt q) : pv_tg g 86 = (100, 5) := G.2.2.2.2.2.2.2.2.2.2.2.2.2.2.2.2.2.2.2.2.2.2.2.2.2.2.2.2.2.2.2.2.2.2.2.2.2.2.2.2.2.2.2.2.2.2.2.2.2.2.2.2.2.2.2.2.2.2.1
theorem gC.t87 {g : PvG} {rt tt : Nat} {q : Nat → Nat} (G : gC g rt tt q) : pv_tg g 87 = (100, 3) := G.2.2.2.2.2.2.2.2.2.2.2.2.2.2.2.2.2.2.2.2.2.2.2.2.2.2.2.2.2.2.2.2.2.2.2.2.2.2.2.2.2.2.2.2.2.2.2.2.2.2.2.2.2.2.2.2.2.2.2.1
theorem gC.t88 {g : PvG} {rt tt : Nat} {q : Nat → Nat} (G : gC g rt tt q) : pv_tg g 88 = (103, 3) := G.2.2.2.2.2.2.2.2.2.2.2.2.2.2.2.2.2.2.2.2.2.2.2.2.2.2.2.2.2.2.2.2.2.2.2.2.2.2.2.2.2.2.2.2.2.2.2.2.2.2.2.2.2.2.2.2.2.2.2.2.1
theorem gC.t89 {g : PvG} {rt tt : Nat} {q : Nat → Nat} (G : gC g rt tt q) : pv_tg g 89 = (100, 5) := G.2.2.2.2.2.2.2.2.2.2.2.2.2.2.2.2.2.2.2.2.2.2.2.2.2.2.2.2.2.2.2.2.2.2.2.2.2.2.2.2.2.2.2.2.2.2.2.2.2.2.2.2.2.2.2.2.2.2.2.2.2.1
theorem gC.t90 {g : PvG} {rt tt : Nat} {q : Nat → Nat} (G : gC g rt tt q) : pv_tg g 90 = (100, 5) := G.2.2.2.2.2.2.2.2.2.2.2.2.2.2.2.2.2.2.2.2.2.2.2.2.2.2.2.2.2.2.2.2.2.2.2.2.2.2.2.2.2.2.2.2.2.2.2.2.2.2.2.2.2.2.2.2.2.2.2.2.2.2.1
theorem gC.t91 {g : PvG} {rt tt : Nat} {q : Nat → Nat} (G : gC g rt tt q) : pv_tg g 91 = (100, 5) := G.2.2.2.2.2.2.2.2.2.2.2.2.2.2.2.2.2.2.2.2.2.2.2.2.2.2.2.2.2.2.2.2.2.2.2.2.2.2.2.2.2.2.2.2.2.2.2.2.2.2.2.2.2.2.2.2.2.2.2.2.2.2.2.1
theorem gC.t92 {g : PvG} {rt tt : Nat} {q : Nat → Nat} (G : gC g rt tt q) : pv_tg g 92 = (103, 4) := G.2.2.2.2.2.2.2.2.2.2.2.2.2.2.2.2.2.2.2.2.2.2.2.2.2.2.2.2.2.2.2.2.2.2.2.2.2.2.2.2.2.2.2.2.2.2.2.2.2.2.2.2.2.2.2.2.2.2.2.2.2.2.2.2.1
theorem gC.t93 {g : PvG} {rt tt : Nat} {q : Nat → Nat} (G : gC g rt tt q) : pv_tg g 93 = (100, 4) := G.2.2.2.2.2.2.2.2.2.2.2.2.2.2.2.2.2.2.2.2.2.2.2.2.2.2.2.2.2.2.2.2.2.2.2.2.2.2.2.2.2.2.2.2.2.2.2.2.2.2.2.2.2.2.2.2.2.2.2.2.2.2.2.2.2.1
theorem gC.t94 {g : PvG} {rt tt : Nat} {q : Nat → Nat} (G : gC g rt tt q) : pv_tg g 94 = (100, 4) := G.2.2.2.2.2.2.2.2.2.2.2.2.2.2.2.2.2.2.2.2.2.2.2.2.2.2.2.2.2.2.2.2.2.2.2.2.2.2.2.2.2.2.2.2.2.2.2.2.2.2.2.2.2.2.2.2.2.2.2.2.2.2.2.2.2.2.1
theorem gC.t95 {g : PvG} {rt tt : Nat} {q : Nat → Nat} (G : gC g rt tt q) : pv_tg g 95 = (100, 4) := G.2.2.2.2.2.2.2.2.2.2.2.2.2.2.2.2.2.2.2.2.2.2.2.2.2.2.2.2.2.2.2.2.2.2.2.2.2.2.2.2.2.2.2.2.2.2.2.2.2.2.2.2.2.2.2.2.2.2.2.2.2.2.2.2.2.2.2.1
theorem gC.t96 {g : PvG} {rt tt : Nat} {q : Nat → Nat} (G : gC g rt tt q) : pv_tg g 96 = (100, 4) := G.2.2.2.2.2.2.2.2.2.2.2.2.2.2.2.2.2.2.2.2.2.2.2.2.2.2.2.2.2.2.2.2.2.2.2.2.2.2.2.2.2.2.2.2.2.2.2.2.2.2.2.2.2.2.2.2.2.2.2.2.2.2.2.2.2.2.2.2.1
theorem gC.t97 {g : PvG} {rt tt : Nat} {q : Nat → Nat} (G : gC g rt tt q) : pv_tg g 97 = (100, 12) := G.2.2.2.2.2.2.2.2.2.2.2.2.2.2.2.2.2.2.2.2.2.2.2.2.2.2.2.2.2.2.2.2.2.2.2.2.2.2.2.2.2.2.2.2.2.2.2.2.2.2.2.2.2.2.2.2.2.2.2.2.2.2.2.2.2.2.2.2.2.1
theorem gC.t98 {g : PvG} {rt tt : Nat} {q : Nat → Nat} (G : gC g rt tt q) : pv_tg g 98 = (100, 12) := G.2.2.2.2.2.2.2.2.2.2.2.2.2.2.2.2.2.2.2.2.2.2.2.2.2.2.2.2.2.2.2.2.2.2.2.2.2.2.2.2.2.2.2.2.2.2.2.2.2.2.2.2.2.2.2.2.2.2.2.2.2.2.2.2.2.2.2.2.2.2.1
theorem gC.t100 {g : PvG} {rt tt : Nat} {q : Nat → Nat} (G : gC g rt tt q) : pv_tg g 100 = (100, 5) := G.2.2.2.2.2.2.2.2.2.2.2.2.2.2.2.2.2.2.2.2.2.2.2.2.2.2.2.2.2.2.2.2.2.2.2.2.2.2.2.2.2.2.2.2.2.2.2.2.2.2.2.2.2.2.2.2.2.2.2.2.2.2.2.2.2.2.2.2.2.2.2.1
theorem gC.T3 {g : PvG} {rt tt : Nat} {q : Nat → Nat} (G : gC g rt tt q) : gT g 3 := G.2.2.2.2.2.2.2.2.2.2.2.2.2.2.2.2.2.2.2.2.2.2.2.2.2.2.2.2.2.2.2.2.2.2.2.2.2.2.2.2.2.2.2.2.2.2.2.2.2.2.2.2.2.2.2.2.2.2.2.2.2.2.2.2.2.2.2.2.2.2.2.2.1
theorem gC.T12 {g : PvG} {rt tt : Nat} {q : Nat → Nat} (G : gC g rt tt q) : gT g 12 := G.2.2.2.2.2.2.2.2.2.2.2.2.2.2.2.2.2.2.2.2.2.2.2.2.2.2.2.2.2.2.2.2.2.2.2.2.2.2.2.2.2.2.2.2.2.2.2.2.2.2.2.2.2.2.2.2.2.2.2.2.2.2.2.2.2.2.2.2.2.2.2.2.2.1
theorem gC.S20 {g : PvG} {rt tt : Nat} {q : Nat → Nat} (G : gC g rt tt q) : gS g 20 := G.2.2.2.2.2.2.2.2.2.2.2.2.2.2.2.2.2.2.2.2.2.2.2.2.2.2.2.2.2.2.2.2.2.2.2.2.2.2.2.2.2.2.2.2.2.2.2.2.2.2.2.2.2.2.2.2.2.2.2.2.2.2.2.2.2.2.2.2.2.2.2.2.2.2.1
theorem gC.S68 {g : PvG} {rt tt : Nat} {q : Nat → Nat} (G : gC g rt tt q) : gS g 68 := G.2.2.2.2.2.2.2.2.2.2.2.2.2.2.2.2.2.2.2.2.2.2.2.2.2.2.2.2.2.2.2.2.2.2.2.2.2.2.2.2.2.2.2.2.2.2.2.2.2.2.2.2.2.2.2.2.2.2.2.2.2.2.2.2.2.2.2.2.2.2.2.2.2.2.2.1
theorem gC.S74 {g : PvG} {rt tt : Nat} {q : Nat → Nat} (G : gC g rt tt q) : gS g 74 := G.2.2.2.2.2.2.2.2.2.2.2.2.2.2.2.2.2.2.2.2.2.2.2.2.2.2.2.2.2.2.2.2.2.2.2.2.2.2.2.2.2.2.2.2.2.2.2.2.2.2.2.2.2.2.2.2.2.2.2.2.2.2.2.2.2.2.2.2.2.2.2.2.2.2.2.2.1
theorem gC.Sq {g : PvG} {rt tt : Nat} {q : Nat → Nat} (G : gC g rt tt q) : ∀ j, j < 10 → gS g (27 + 4 * j) := G.2.2.2.2.2.2.2.2.2.2.2.2.2.2.2.2.2.2.2.2.2.2.2.2.2.2.2.2.2.2.2.2.2.2.2.2.2.2.2.2.2.2.2.2.2.2.2.2.2.2.2.2.2.2.2.2.2.2.2.2.2.2.2.2.2.2.2.2.2.2.2.2.2.2.2.2.2.1
theorem gC.q {g : PvG} {rt tt : Nat} {q : Nat → Nat} (G : gC g rt tt q) : ∀ i, i < 10 → pv_rf g 26 i = some (q i) := G.2.2.2.2.2.2.2.2.2.2.2.2.2.2.2.2.2.2.2.2.2.2.2.2.2.2.2.2.2.2.2.2.2.2.2.2.2.2.2.2.2.2.2.2.2.2.2.2.2.2.2.2.2.2.2.2.2.2.2.2.2.2.2.2.2.2.2.2.2.2.2.2.2.2.2.2.2.2.1
theorem gC.qj {g : PvG} {rt tt : Nat} {q : Nat → Nat} (G : gC g rt tt q) : ∀ i, i < 10 → ∃ j, j < 10 ∧ q i = 27 + 4 * j := G.2.2.2.2.2.2.2.2.2.2.2.2.2.2.2.2.2.2.2.2.2.2.2.2.2.2.2.2.2.2.2.2.2.2.2.2.2.2.2.2.2.2.2.2.2.2.2.2.2.2.2.2.2.2.2.2.2.2.2.2.2.2.2.2.2.2.2.2.2.2.2.2.2.2.2.2.2.2.2.1
theorem gC.qi {g : PvG} {rt tt : Nat} {q : Nat → Nat} (G : gC g rt tt q) : ∀ i j, i < 10 → j < 10 → q i = q j → i = j := G.2.2.2.2.2.2.2.2.2.2.2.2.2.2.2.2.2.2.2.2.2.2.2.2.2.2.2.2.2.2.2.2.2.2.2.2.2.2.2.2.2.2.2.2.2.2.2.2.2.2.2.2.2.2.2.2.2.2.2.2.2.2.2.2.2.2.2.2.2.2.2.2.2.2.2.2.2.2.2.2.1
theorem gC.rt {g : PvG} {rt tt : Nat} {q : Nat → Nat} (G : gC g rt tt q) : (rt = 3 ∧ tt = 12) ∨ (rt = 12 ∧ tt = 3) := G.2.2.2.2.2.2.2.2.2.2.2.2.2.2.2.2.2.2.2.2.2.2.2.2.2.2.2.2.2.2.2.2.2.2.2.2.2.2.2.2.2.2.2.2.2.2.2.2.2.2.2.2.2.2.2.2.2.2.2.2.2.2.2.2.2.2.2.2.2.2.2.2.2.2.2.2.2.2.2.2.2
theorem gC.Tr {g : PvG} {rt tt : Nat} {q : Nat → Nat} (G : gC g rt tt q) : gT g rt := by rcases G.rt with ⟨a, b⟩ | ⟨a, b⟩ <;> rw [a] <;> first | exact G.T3 | exact G.T12
theorem gC.Tt {g : PvG} {rt tt : Nat} {q : Nat → Nat} (G : gC g rt tt q) : gT g tt := by rcases G.rt with ⟨a, b⟩ | ⟨a, b⟩ <;> rw [b] <;> first | exact G.T3 | exact G.T12
/-- the whole state: tower, now, the index, acts (the first one first), what is kept low and high, length, text -/
abbrev SX : Type := ST × SS × (Nat → Nat) × List SS × Option (SS × (Nat → Nat)) × Option (SS × (Nat → Nat)) × Nat × (Nat → Nat)
def xT (x : SX) : ST := x.1
def xS (x : SX) : SS := x.2.1
def xI (x : SX) : Nat → Nat := x.2.2.1
def xA (x : SX) : List SS := x.2.2.2.1
def xLo (x : SX) : Option (SS × (Nat → Nat)) := x.2.2.2.2.1
def xHi (x : SX) : Option (SS × (Nat → Nat)) := x.2.2.2.2.2.1
def xN (x : SX) : Nat := x.2.2.2.2.2.2.1
def xX (x : SX) : Nat → Nat := x.2.2.2.2.2.2.2
def okK (t : ST) (k : Option (SS × (Nat → Nat))) : Prop := ∀ s ix, k = some (s, ix) → okS t s ∧ ∀ r, r < tR t → ix r < tF t
/-- what always holds of the state -/
def okX (x : SX) : Prop := okT (xT x) ∧ okS (xT x) (xS x) ∧ (∀ r, r < tR (xT x) → xI x r < tF (xT x)) ∧ (xA x).length ≤ 10 ∧ (∀ s ∈ xA x, okS (xT x) s) ∧ okK (xT x) (xLo x) ∧ okK (xT x) (xHi x) ∧ xN x ≤ 76 ∧ ∀ i, i < xN x → xX x i < 256
theorem okX.T {x : SX} (h : okX x) : okT (xT x) := h.1
theorem okX.S {x : SX} (h : okX x) : okS (xT x) (xS x) := h.2.1
theorem okX.R {x : SX} (h : okX x) : tR (xT x) ≤ 8 := h.1.2.2.1
theorem okX.F {x : SX} (h : okX x) : tF (xT x) ≤ 5 := h.1.2.1
theorem okX.D {x : SX} (h : okX x) : sD (xS x) < 256 := p8 h.2.1.2.1 h.R
def cK (h : PvH) (o so io R : Nat) (k : Option (SS × (Nat → Nat))) : Prop := h o 0 = pv_b k.isSome ∧ ∀ s ix, k = some (s, ix) → cS h so R s ∧ ∀ r, r < R → h io r = nI (ix r)
def cC (h : PvH) (rt : Nat) (q : Nat → Nat) (x : SX) : Prop := (cT h rt (xT x)) ∧ (cS h 20 (tR (xT x)) (xS x)) ∧ (∀ r, r < tR (xT x) → h 24 r = nI (xI x r)) ∧ (h 25 1 = nI (xA x).length) ∧ (∀ i s, (xA x)[i]? = some s → cS h (q i) (tR (xT x)) s) ∧ (cK h 67 68 72 (tR (xT x)) (xLo x)) ∧ (cK h 73 74 78 (tR (xT x)) (xHi x)) ∧ (h 0 1 = nI (xN x)) ∧ (∀ i, i < xN x → h 1 i = nI (xX x i)) ∧ (∀ f, f < 5 → h 100 f = 0) ∧ (∀ e f, e < 3 → f < 5 → h (89 + e) f = 0)
theorem cC.T {h : PvH} {rt : Nat} {q : Nat → Nat} {x : SX} (G : cC h rt q x) : cT h rt (xT x) := G.1
theorem cC.S {h : PvH} {rt : Nat} {q : Nat → Nat} {x : SX} (G : cC h rt q x) : cS h 20 (tR (xT x)) (xS x) := G.2.1
theorem cC.X {h : PvH} {rt : Nat} {q : Nat → Nat} {x : SX} (G : cC h rt q x) : ∀ r, r < tR (xT x) → h 24 r = nI (xI x r) := G.2.2.1
theorem cC.n {h : PvH} {rt : Nat} {q : Nat → Nat} {x : SX} (G : cC h rt q x) : h 25 1 = nI (xA x).length := G.2.2.2.1
theorem cC.A {h : PvH} {rt : Nat} {q : Nat → Nat} {x : SX} (G : cC h rt q x) : ∀ i s, (xA x)[i]? = some s → cS h (q i) (tR (xT x)) s := G.2.2.2.2.1
theorem cC.lo {h : PvH} {rt : Nat} {q : Nat → Nat} {x : SX} (G : cC h rt q x) : cK h 67 68 72 (tR (xT x)) (xLo x) := G.2.2.2.2.2.1
theorem cC.hi {h : PvH} {rt : Nat} {q : Nat → Nat} {x : SX} (G : cC h rt q x) : cK h 73 74 78 (tR (xT x)) (xHi x) := G.2.2.2.2.2.2.1
theorem cC.N {h : PvH} {rt : Nat} {q : Nat → Nat} {x : SX} (G : cC h rt q x) : h 0 1 = nI (xN x) := G.2.2.2.2.2.2.2.1
theorem cC.Y {h : PvH} {rt : Nat} {q : Nat → Nat} {x : SX} (G : cC h rt q x) : ∀ i, i < xN x → h 1 i = nI (xX x i) := G.2.2.2.2.2.2.2.2.1
theorem cC.z {h : PvH} {rt : Nat} {q : Nat → Nat} {x : SX} (G : cC h rt q x) : ∀ f, f < 5 → h 100 f = 0 := G.2.2.2.2.2.2.2.2.2.1
theorem cC.zl {h : PvH} {rt : Nat} {q : Nat → Nat} {x : SX} (G : cC h rt q x) : ∀ e f, e < 3 → f < 5 → h (89 + e) f = 0 := G.2.2.2.2.2.2.2.2.2.2
/-- a page of the model: worth, kind, floor, drowned, water, effort, left -/
def cP (h : PvH) (a b R : Nat) (s : SS) : Prop := (∀ r, r < R → h a (b + r) = nI (sV s r)) ∧ (∀ r, r < R → h a (b + 8 + r) = nI (sK s r)) ∧ (∀ r, r < R → h a (b + 16 + r) = nI (sP s r)) ∧ (∀ r, r < R → h a (b + 24 + r) = pv_b ((sD s).testBit r)) ∧ h a (b + 32) = nI (sH s) ∧ h a (b + 33) = nI (sE s) ∧ h a (b + 34) = nI (sL s)
def cQ (h : PvH) (z R : Nat) (k : Option (SS × (Nat → Nat))) : Prop := h 119 z = pv_b k.isSome ∧ ∀ s ix, k = some (s, ix) → cP h 118 (43 * z) R s ∧ ∀ r, r < R → h 118 (43 * z + 35 + r) = nI (ix r)
def cD (h : PvH) (x : SX) : Prop := (cM h (xT x) (xS x) (xI x)) ∧ (h 102 25 = nI (xA x).length) ∧ (∀ i s, (xA x)[i]? = some s → cP h 117 (35 * i) (tR (xT x)) s) ∧ (cQ h 0 (tR (xT x)) (xLo x)) ∧ (cQ h 1 (tR (xT x)) (xHi x)) ∧ (h 102 2 = nI (xN x)) ∧ (∀ i, i < xN x → h 103 i = nI (xX x i))
theorem cD.M {h : PvH} {x : SX} (G : cD h x) : cM h (xT x) (xS x) (xI x) := G.1
theorem cD.n {h : PvH} {x : SX} (G : cD h x) : h 102 25 = nI (xA x).length := G.2.1
theorem cD.A {h : PvH} {x : SX} (G : cD h x) : ∀ i s, (xA x)[i]? = some s → cP h 117 (35 * i) (tR (xT x)) s := G.2.2.1
theorem cD.lo {h : PvH} {x : SX} (G : cD h x) : cQ h 0 (tR (xT x)) (xLo x) := G.2.2.2.1
theorem cD.hi {h : PvH} {x : SX} (G : cD h x) : cQ h 1 (tR (xT x)) (xHi x) := G.2.2.2.2.1
theorem cD.N {h : PvH} {x : SX} (G : cD h x) : h 102 2 = nI (xN x) := G.2.2.2.2.2.1
theorem cD.Y {h : PvH} {x : SX} (G : cD h x) : ∀ i, i < xN x → h 103 i = nI (xX x i) := G.2.2.2.2.2.2
/-- the class holds the state -/
def RC (g : PvG) (h : PvH) (x : SX) : Prop := ∃ rt tt q, gC g rt tt q ∧ cC h rt q x
/-- the model holds the state -/
def RM (g : PvG) (h : PvH) (x : SX) : Prop := gM g ∧ cD h x
/-- the class's calls leave the model's objects, the model's leave the class's -/
def FC (h h' : PvH) : Prop := ∀ o, 102 ≤ o → h' o = h o
def FM (h h' : PvH) : Prop := ∀ o, o < 102 → h' o = h o
def FG (g g' : PvG) : Prop := (∀ o, pv_tg g' o = pv_tg g o) ∧ ∀ o k, 102 ≤ o → pv_rf g' o k = pv_rf g o k
theorem FG.rf {g : PvG} : FG g g := ⟨fun _ => rfl, fun _ _ _ => rfl⟩
theorem FC.rf {h : PvH} : FC h h := fun _ _ => rfl
theorem FM.rf {h : PvH} : FM h h := fun _ _ => rfl
/-- an operation of the class: from the state x, with answer v, to the state x' -/
def OpC (K id : Nat) (As : List Value) (x : SX) (v : Value) (x' : SX) : Prop := ∀ (d : Nat) (P : PvP) (g : PvG) (h : PvH), RC g h x → (∀ g' h', RC g' h' x' → FG g g' → FC h h' → P (some v) g' h') → pv_run (d + K) id (.ref 0 :: As) g h P
def OpM (K id : Nat) (As : List Value) (x : SX) (v : Value) (x' : SX) : Prop := ∀ (d : Nat) (P : PvP) (g : PvG) (h : PvH), RM g h x → (∀ h', RM g h' x' → FM h h' → P (some v) g h') → pv_run (d + K) id (.ref 102 :: As) g h P
