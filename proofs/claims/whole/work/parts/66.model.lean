/-! the constructor of the model (by program, wip/whole/mk66.py) -/
set_option maxHeartbeats 8000000 in
theorem c99 {d : Nat} {P : PvP} {g : PvG} {h : PvH} {o : Nat} (hb : g.1 = o + 1) (ho : o < 800) (T : (pv_tg g o).1 = 10) (hP : ∀ g' h', AL g h o (o + 25) [(1, o + 1, 100, 76), (5, o + 2, 100, 5), (7, o + 3, 100, 8), (8, o + 4, 100, 8), (9, o + 5, 100, 8), (10, o + 6, 100, 8), (11, o + 7, 100, 8), (12, o + 8, 101, 8), (13, o + 9, 100, 8), (14, o + 10, 101, 64), (19, o + 11, 100, 5), (20, o + 12, 100, 5), (22, o + 13, 100, 40), (23, o + 14, 101, 64), (24, o + 15, 100, 350), (26, o + 16, 100, 86), (27, o + 17, 101, 2), (28, o + 18, 100, 32), (29, o + 19, 100, 32), (30, o + 20, 101, 32), (31, o + 21, 100, 4), (34, o + 22, 100, 8), (35, o + 23, 100, 8), (36, o + 24, 100, 5)] [] g' h' (fun j => if j = 17 then 9 else (fun j => if j = 16 then 9 else (fun j => if j = 4 then 2 else (h o) j) j) j) → P none g' h') : pv_run (d + 1) 99 [.ref o] g h P := by
  rw [e99, z99_0, z99_1 (by simp [pv_cat])]
  have A0 := AL.nil (h := h) hb
  have T0 : (pv_tg g o).1 = 10 := T
  have b0 : g.1 = o + 1 := A0.1
  rw [z99_4, z99_5, n99_7]
  refine ⟨by omega, by decide, by decide, ?_⟩
  rw [z99_9]
  refine ⟨by rw [nO_t (by omega)]; exact T0, ?_⟩
  have A1 : AL g h o (o + 2) [(1, o + 1, 100, 76)] [] (pv_sr (pv_newO g 100 76) o 1 (some g.1)) (pv_newH g h) (h o) := A0.arr 1 100 76 (by simp)
  have T1 : (pv_tg (pv_sr (pv_newO g 100 76) o 1 (some g.1)) o).1 = 10 := by rw [sr_tg, nO_t (by omega)]; exact T0
  generalize pv_sr (pv_newO g 100 76) o 1 (some g.1) = g1 at A1 T1 ⊢
  generalize pv_newH g h = h1 at A1 ⊢
  clear A0 T0 b0
  show pv_E d 99 P 12 _ [] 1 76 _ _
  rw [z99_12, z99_13, z99_14]
  refine ⟨T1, ?_⟩
  have A2 : AL g h o (o + 2) [(1, o + 1, 100, 76)] [] g1 (pv_st h1 o 4 2) (fun j => if j = 4 then 2 else (h o) j) := A1.put 4 2
  have T2 := T1
  generalize pv_st h1 o 4 2 = h2 at A2 ⊢
  clear A1 T1
  have b2 : g1.1 = o + 2 := A2.1
  rw [z99_17, z99_18, n99_19]
  refine ⟨by omega, by decide, by decide, ?_⟩
  rw [z99_21]
  refine ⟨by rw [nO_t (by omega)]; exact T2, ?_⟩
  have A3 : AL g h o (o + 3) [(1, o + 1, 100, 76), (5, o + 2, 100, 5)] [] (pv_sr (pv_newO g1 100 5) o 5 (some g1.1)) (pv_newH g1 h2) (fun j => if j = 4 then 2 else (h o) j) := A2.arr 5 100 5 (by simp)
  have T3 : (pv_tg (pv_sr (pv_newO g1 100 5) o 5 (some g1.1)) o).1 = 10 := by rw [sr_tg, nO_t (by omega)]; exact T2
  generalize pv_sr (pv_newO g1 100 5) o 5 (some g1.1) = g3 at A3 T3 ⊢
  generalize pv_newH g1 h2 = h3 at A3 ⊢
  clear A2 T2 b2
  show pv_E d 99 P 24 _ [] 2 81 _ _
  have b3 : g3.1 = o + 3 := A3.1
  rw [z99_24, z99_25, n99_27]
  refine ⟨by omega, by decide, by decide, ?_⟩
  rw [z99_29]
  refine ⟨by rw [nO_t (by omega)]; exact T3, ?_⟩
  have A4 : AL g h o (o + 4) [(1, o + 1, 100, 76), (5, o + 2, 100, 5), (7, o + 3, 100, 8)] [] (pv_sr (pv_newO g3 100 8) o 7 (some g3.1)) (pv_newH g3 h3) (fun j => if j = 4 then 2 else (h o) j) := A3.arr 7 100 8 (by simp)
  have T4 : (pv_tg (pv_sr (pv_newO g3 100 8) o 7 (some g3.1)) o).1 = 10 := by rw [sr_tg, nO_t (by omega)]; exact T3
  generalize pv_sr (pv_newO g3 100 8) o 7 (some g3.1) = g4 at A4 T4 ⊢
  generalize pv_newH g3 h3 = h4 at A4 ⊢
  clear A3 T3 b3
  show pv_E d 99 P 32 _ [] 3 89 _ _
  have b4 : g4.1 = o + 4 := A4.1
  rw [z99_32, z99_33, n99_35]
  refine ⟨by omega, by decide, by decide, ?_⟩
  rw [z99_37]
  refine ⟨by rw [nO_t (by omega)]; exact T4, ?_⟩
  have A5 : AL g h o (o + 5) [(1, o + 1, 100, 76), (5, o + 2, 100, 5), (7, o + 3, 100, 8), (8, o + 4, 100, 8)] [] (pv_sr (pv_newO g4 100 8) o 8 (some g4.1)) (pv_newH g4 h4) (fun j => if j = 4 then 2 else (h o) j) := A4.arr 8 100 8 (by simp)
  have T5 : (pv_tg (pv_sr (pv_newO g4 100 8) o 8 (some g4.1)) o).1 = 10 := by rw [sr_tg, nO_t (by omega)]; exact T4
  generalize pv_sr (pv_newO g4 100 8) o 8 (some g4.1) = g5 at A5 T5 ⊢
  generalize pv_newH g4 h4 = h5 at A5 ⊢
  clear A4 T4 b4
  show pv_E d 99 P 40 _ [] 4 97 _ _
  have b5 : g5.1 = o + 5 := A5.1
  rw [z99_40, z99_41, n99_43]
  refine ⟨by omega, by decide, by decide, ?_⟩
  rw [z99_45]
  refine ⟨by rw [nO_t (by omega)]; exact T5, ?_⟩
  have A6 : AL g h o (o + 6) [(1, o + 1, 100, 76), (5, o + 2, 100, 5), (7, o + 3, 100, 8), (8, o + 4, 100, 8), (9, o + 5, 100, 8)] [] (pv_sr (pv_newO g5 100 8) o 9 (some g5.1)) (pv_newH g5 h5) (fun j => if j = 4 then 2 else (h o) j) := A5.arr 9 100 8 (by simp)
  have T6 : (pv_tg (pv_sr (pv_newO g5 100 8) o 9 (some g5.1)) o).1 = 10 := by rw [sr_tg, nO_t (by omega)]; exact T5
  generalize pv_sr (pv_newO g5 100 8) o 9 (some g5.1) = g6 at A6 T6 ⊢
  generalize pv_newH g5 h5 = h6 at A6 ⊢
  clear A5 T5 b5
  show pv_E d 99 P 48 _ [] 5 105 _ _
  have b6 : g6.1 = o + 6 := A6.1
  rw [z99_48, z99_49, n99_51]
  refine ⟨by omega, by decide, by decide, ?_⟩
  rw [z99_53]
  refine ⟨by rw [nO_t (by omega)]; exact T6, ?_⟩
  have A7 : AL g h o (o + 7) [(1, o + 1, 100, 76), (5, o + 2, 100, 5), (7, o + 3, 100, 8), (8, o + 4, 100, 8), (9, o + 5, 100, 8), (10, o + 6, 100, 8)] [] (pv_sr (pv_newO g6 100 8) o 10 (some g6.1)) (pv_newH g6 h6) (fun j => if j = 4 then 2 else (h o) j) := A6.arr 10 100 8 (by simp)
  have T7 : (pv_tg (pv_sr (pv_newO g6 100 8) o 10 (some g6.1)) o).1 = 10 := by rw [sr_tg, nO_t (by omega)]; exact T6
  generalize pv_sr (pv_newO g6 100 8) o 10 (some g6.1) = g7 at A7 T7 ⊢
  generalize pv_newH g6 h6 = h7 at A7 ⊢
  clear A6 T6 b6
  show pv_E d 99 P 56 _ [] 6 113 _ _
  have b7 : g7.1 = o + 7 := A7.1
  rw [z99_56, z99_57, n99_59]
  refine ⟨by omega, by decide, by decide, ?_⟩
  rw [z99_61]
  refine ⟨by rw [nO_t (by omega)]; exact T7, ?_⟩
  have A8 : AL g h o (o + 8) [(1, o + 1, 100, 76), (5, o + 2, 100, 5), (7, o + 3, 100, 8), (8, o + 4, 100, 8), (9, o + 5, 100, 8), (10, o + 6, 100, 8), (11, o + 7, 100, 8)] [] (pv_sr (pv_newO g7 100 8) o 11 (some g7.1)) (pv_newH g7 h7) (fun j => if j = 4 then 2 else (h o) j) := A7.arr 11 100 8 (by simp)
  have T8 : (pv_tg (pv_sr (pv_newO g7 100 8) o 11 (some g7.1)) o).1 = 10 := by rw [sr_tg, nO_t (by omega)]; exact T7
  generalize pv_sr (pv_newO g7 100 8) o 11 (some g7.1) = g8 at A8 T8 ⊢
  generalize pv_newH g7 h7 = h8 at A8 ⊢
  clear A7 T7 b7
  show pv_E d 99 P 64 _ [] 7 121 _ _
  have b8 : g8.1 = o + 8 := A8.1
  rw [z99_64, z99_65, n99_67]
  refine ⟨by omega, by decide, by decide, ?_⟩
  rw [z99_69]
  refine ⟨by rw [nO_t (by omega)]; exact T8, ?_⟩
  have A9 : AL g h o (o + 9) [(1, o + 1, 100, 76), (5, o + 2, 100, 5), (7, o + 3, 100, 8), (8, o + 4, 100, 8), (9, o + 5, 100, 8), (10, o + 6, 100, 8), (11, o + 7, 100, 8), (12, o + 8, 101, 8)] [] (pv_sr (pv_newO g8 101 8) o 12 (some g8.1)) (pv_newH g8 h8) (fun j => if j = 4 then 2 else (h o) j) := A8.arr 12 101 8 (by simp)
  have T9 : (pv_tg (pv_sr (pv_newO g8 101 8) o 12 (some g8.1)) o).1 = 10 := by rw [sr_tg, nO_t (by omega)]; exact T8
  generalize pv_sr (pv_newO g8 101 8) o 12 (some g8.1) = g9 at A9 T9 ⊢
  generalize pv_newH g8 h8 = h9 at A9 ⊢
  clear A8 T8 b8
  show pv_E d 99 P 72 _ [] 8 129 _ _
  have b9 : g9.1 = o + 9 := A9.1
  rw [z99_72, z99_73, n99_75]
  refine ⟨by omega, by decide, by decide, ?_⟩
  rw [z99_77]
  refine ⟨by rw [nO_t (by omega)]; exact T9, ?_⟩
  have A10 : AL g h o (o + 10) [(1, o + 1, 100, 76), (5, o + 2, 100, 5), (7, o + 3, 100, 8), (8, o + 4, 100, 8), (9, o + 5, 100, 8), (10, o + 6, 100, 8), (11, o + 7, 100, 8), (12, o + 8, 101, 8), (13, o + 9, 100, 8)] [] (pv_sr (pv_newO g9 100 8) o 13 (some g9.1)) (pv_newH g9 h9) (fun j => if j = 4 then 2 else (h o) j) := A9.arr 13 100 8 (by simp)
  have T10 : (pv_tg (pv_sr (pv_newO g9 100 8) o 13 (some g9.1)) o).1 = 10 := by rw [sr_tg, nO_t (by omega)]; exact T9
  generalize pv_sr (pv_newO g9 100 8) o 13 (some g9.1) = g10 at A10 T10 ⊢
  generalize pv_newH g9 h9 = h10 at A10 ⊢
  clear A9 T9 b9
  show pv_E d 99 P 80 _ [] 9 137 _ _
  have b10 : g10.1 = o + 10 := A10.1
  rw [z99_80, z99_81, n99_83]
  refine ⟨by omega, by decide, by decide, ?_⟩
  rw [z99_85]
  refine ⟨by rw [nO_t (by omega)]; exact T10, ?_⟩
  have A11 : AL g h o (o + 11) [(1, o + 1, 100, 76), (5, o + 2, 100, 5), (7, o + 3, 100, 8), (8, o + 4, 100, 8), (9, o + 5, 100, 8), (10, o + 6, 100, 8), (11, o + 7, 100, 8), (12, o + 8, 101, 8), (13, o + 9, 100, 8), (14, o + 10, 101, 64)] [] (pv_sr (pv_newO g10 101 64) o 14 (some g10.1)) (pv_newH g10 h10) (fun j => if j = 4 then 2 else (h o) j) := A10.arr 14 101 64 (by simp)
  have T11 : (pv_tg (pv_sr (pv_newO g10 101 64) o 14 (some g10.1)) o).1 = 10 := by rw [sr_tg, nO_t (by omega)]; exact T10
  generalize pv_sr (pv_newO g10 101 64) o 14 (some g10.1) = g11 at A11 T11 ⊢
  generalize pv_newH g10 h10 = h11 at A11 ⊢
  clear A10 T10 b10
  show pv_E d 99 P 88 _ [] 10 201 _ _
  rw [z99_88, z99_89, z99_91]
  refine ⟨T11, ?_⟩
  have A12 : AL g h o (o + 11) [(1, o + 1, 100, 76), (5, o + 2, 100, 5), (7, o + 3, 100, 8), (8, o + 4, 100, 8), (9, o + 5, 100, 8), (10, o + 6, 100, 8), (11, o + 7, 100, 8), (12, o + 8, 101, 8), (13, o + 9, 100, 8), (14, o + 10, 101, 64)] [] g11 (pv_st h11 o 16 9) (fun j => if j = 16 then 9 else (fun j => if j = 4 then 2 else (h o) j) j) := A11.put 16 9
  have T12 := T11
  generalize pv_st h11 o 16 9 = h12 at A12 ⊢
  clear A11 T11
  rw [z99_94, z99_95, z99_97]
  refine ⟨T12, ?_⟩
  have A13 : AL g h o (o + 11) [(1, o + 1, 100, 76), (5, o + 2, 100, 5), (7, o + 3, 100, 8), (8, o + 4, 100, 8), (9, o + 5, 100, 8), (10, o + 6, 100, 8), (11, o + 7, 100, 8), (12, o + 8, 101, 8), (13, o + 9, 100, 8), (14, o + 10, 101, 64)] [] g11 (pv_st h12 o 17 9) (fun j => if j = 17 then 9 else (fun j => if j = 16 then 9 else (fun j => if j = 4 then 2 else (h o) j) j) j) := A12.put 17 9
  have T13 := T12
  generalize pv_st h12 o 17 9 = h13 at A13 ⊢
  clear A12 T12
  have b13 : g11.1 = o + 11 := A13.1
  rw [z99_100, z99_101, n99_102]
  refine ⟨by omega, by decide, by decide, ?_⟩
  rw [z99_104]
  refine ⟨by rw [nO_t (by omega)]; exact T13, ?_⟩
  have A14 : AL g h o (o + 12) [(1, o + 1, 100, 76), (5, o + 2, 100, 5), (7, o + 3, 100, 8), (8, o + 4, 100, 8), (9, o + 5, 100, 8), (10, o + 6, 100, 8), (11, o + 7, 100, 8), (12, o + 8, 101, 8), (13, o + 9, 100, 8), (14, o + 10, 101, 64), (19, o + 11, 100, 5)] [] (pv_sr (pv_newO g11 100 5) o 19 (some g11.1)) (pv_newH g11 h13) (fun j => if j = 17 then 9 else (fun j => if j = 16 then 9 else (fun j => if j = 4 then 2 else (h o) j) j) j) := A13.arr 19 100 5 (by simp)
  have T14 : (pv_tg (pv_sr (pv_newO g11 100 5) o 19 (some g11.1)) o).1 = 10 := by rw [sr_tg, nO_t (by omega)]; exact T13
  generalize pv_sr (pv_newO g11 100 5) o 19 (some g11.1) = g14 at A14 T14 ⊢
  generalize pv_newH g11 h13 = h14 at A14 ⊢
  clear A13 T13 b13
  show pv_E d 99 P 107 _ [] 11 206 _ _
  have b14 : g14.1 = o + 12 := A14.1
  rw [z99_107, z99_108, n99_109]
  refine ⟨by omega, by decide, by decide, ?_⟩
  rw [z99_111]
  refine ⟨by rw [nO_t (by omega)]; exact T14, ?_⟩
  have A15 : AL g h o (o + 13) [(1, o + 1, 100, 76), (5, o + 2, 100, 5), (7, o + 3, 100, 8), (8, o + 4, 100, 8), (9, o + 5, 100, 8), (10, o + 6, 100, 8), (11, o + 7, 100, 8), (12, o + 8, 101, 8), (13, o + 9, 100, 8), (14, o + 10, 101, 64), (19, o + 11, 100, 5), (20, o + 12, 100, 5)] [] (pv_sr (pv_newO g14 100 5) o 20 (some g14.1)) (pv_newH g14 h14) (fun j => if j = 17 then 9 else (fun j => if j = 16 then 9 else (fun j => if j = 4 then 2 else (h o) j) j) j) := A14.arr 20 100 5 (by simp)
  have T15 : (pv_tg (pv_sr (pv_newO g14 100 5) o 20 (some g14.1)) o).1 = 10 := by rw [sr_tg, nO_t (by omega)]; exact T14
  generalize pv_sr (pv_newO g14 100 5) o 20 (some g14.1) = g15 at A15 T15 ⊢
  generalize pv_newH g14 h14 = h15 at A15 ⊢
  clear A14 T14 b14
  show pv_E d 99 P 114 _ [] 12 211 _ _
  have b15 : g15.1 = o + 13 := A15.1
  rw [z99_114, z99_115, n99_117]
  refine ⟨by omega, by decide, by decide, ?_⟩
  rw [z99_119]
  refine ⟨by rw [nO_t (by omega)]; exact T15, ?_⟩
  have A16 : AL g h o (o + 14) [(1, o + 1, 100, 76), (5, o + 2, 100, 5), (7, o + 3, 100, 8), (8, o + 4, 100, 8), (9, o + 5, 100, 8), (10, o + 6, 100, 8), (11, o + 7, 100, 8), (12, o + 8, 101, 8), (13, o + 9, 100, 8), (14, o + 10, 101, 64), (19, o + 11, 100, 5), (20, o + 12, 100, 5), (22, o + 13, 100, 40)] [] (pv_sr (pv_newO g15 100 40) o 22 (some g15.1)) (pv_newH g15 h15) (fun j => if j = 17 then 9 else (fun j => if j = 16 then 9 else (fun j => if j = 4 then 2 else (h o) j) j) j) := A15.arr 22 100 40 (by simp)
  have T16 : (pv_tg (pv_sr (pv_newO g15 100 40) o 22 (some g15.1)) o).1 = 10 := by rw [sr_tg, nO_t (by omega)]; exact T15
  generalize pv_sr (pv_newO g15 100 40) o 22 (some g15.1) = g16 at A16 T16 ⊢
  generalize pv_newH g15 h15 = h16 at A16 ⊢
  clear A15 T15 b15
  show pv_E d 99 P 122 _ [] 13 251 _ _
  have b16 : g16.1 = o + 14 := A16.1
  rw [z99_122, z99_123, n99_125]
  refine ⟨by omega, by decide, by decide, ?_⟩
  rw [z99_127]
  refine ⟨by rw [nO_t (by omega)]; exact T16, ?_⟩
  have A17 : AL g h o (o + 15) [(1, o + 1, 100, 76), (5, o + 2, 100, 5), (7, o + 3, 100, 8), (8, o + 4, 100, 8), (9, o + 5, 100, 8), (10, o + 6, 100, 8), (11, o + 7, 100, 8), (12, o + 8, 101, 8), (13, o + 9, 100, 8), (14, o + 10, 101, 64), (19, o + 11, 100, 5), (20, o + 12, 100, 5), (22, o + 13, 100, 40), (23, o + 14, 101, 64)] [] (pv_sr (pv_newO g16 101 64) o 23 (some g16.1)) (pv_newH g16 h16) (fun j => if j = 17 then 9 else (fun j => if j = 16 then 9 else (fun j => if j = 4 then 2 else (h o) j) j) j) := A16.arr 23 101 64 (by simp)
  have T17 : (pv_tg (pv_sr (pv_newO g16 101 64) o 23 (some g16.1)) o).1 = 10 := by rw [sr_tg, nO_t (by omega)]; exact T16
  generalize pv_sr (pv_newO g16 101 64) o 23 (some g16.1) = g17 at A17 T17 ⊢
  generalize pv_newH g16 h16 = h17 at A17 ⊢
  clear A16 T16 b16
  show pv_E d 99 P 130 _ [] 14 315 _ _
  have b17 : g17.1 = o + 15 := A17.1
  rw [z99_130, z99_131, n99_134]
  refine ⟨by omega, by decide, by decide, ?_⟩
  rw [z99_136]
  refine ⟨by rw [nO_t (by omega)]; exact T17, ?_⟩
  have A18 : AL g h o (o + 16) [(1, o + 1, 100, 76), (5, o + 2, 100, 5), (7, o + 3, 100, 8), (8, o + 4, 100, 8), (9, o + 5, 100, 8), (10, o + 6, 100, 8), (11, o + 7, 100, 8), (12, o + 8, 101, 8), (13, o + 9, 100, 8), (14, o + 10, 101, 64), (19, o + 11, 100, 5), (20, o + 12, 100, 5), (22, o + 13, 100, 40), (23, o + 14, 101, 64), (24, o + 15, 100, 350)] [] (pv_sr (pv_newO g17 100 350) o 24 (some g17.1)) (pv_newH g17 h17) (fun j => if j = 17 then 9 else (fun j => if j = 16 then 9 else (fun j => if j = 4 then 2 else (h o) j) j) j) := A17.arr 24 100 350 (by simp)
  have T18 : (pv_tg (pv_sr (pv_newO g17 100 350) o 24 (some g17.1)) o).1 = 10 := by rw [sr_tg, nO_t (by omega)]; exact T17
  generalize pv_sr (pv_newO g17 100 350) o 24 (some g17.1) = g18 at A18 T18 ⊢
  generalize pv_newH g17 h17 = h18 at A18 ⊢
  clear A17 T17 b17
  show pv_E d 99 P 139 _ [] 15 665 _ _
  have b18 : g18.1 = o + 16 := A18.1
  rw [z99_139, z99_140, n99_142]
  refine ⟨by omega, by decide, by decide, ?_⟩
  rw [z99_144]
  refine ⟨by rw [nO_t (by omega)]; exact T18, ?_⟩
  have A19 : AL g h o (o + 17) [(1, o + 1, 100, 76), (5, o + 2, 100, 5), (7, o + 3, 100, 8), (8, o + 4, 100, 8), (9, o + 5, 100, 8), (10, o + 6, 100, 8), (11, o + 7, 100, 8), (12, o + 8, 101, 8), (13, o + 9, 100, 8), (14, o + 10, 101, 64), (19, o + 11, 100, 5), (20, o + 12, 100, 5), (22, o + 13, 100, 40), (23, o + 14, 101, 64), (24, o + 15, 100, 350), (26, o + 16, 100, 86)] [] (pv_sr (pv_newO g18 100 86) o 26 (some g18.1)) (pv_newH g18 h18) (fun j => if j = 17 then 9 else (fun j => if j = 16 then 9 else (fun j => if j = 4 then 2 else (h o) j) j) j) := A18.arr 26 100 86 (by simp)
  have T19 : (pv_tg (pv_sr (pv_newO g18 100 86) o 26 (some g18.1)) o).1 = 10 := by rw [sr_tg, nO_t (by omega)]; exact T18
  generalize pv_sr (pv_newO g18 100 86) o 26 (some g18.1) = g19 at A19 T19 ⊢
  generalize pv_newH g18 h18 = h19 at A19 ⊢
  clear A18 T18 b18
  show pv_E d 99 P 147 _ [] 16 751 _ _
  have b19 : g19.1 = o + 17 := A19.1
  rw [z99_147, z99_148, n99_149]
  refine ⟨by omega, by decide, by decide, ?_⟩
  rw [z99_151]
  refine ⟨by rw [nO_t (by omega)]; exact T19, ?_⟩
  have A20 : AL g h o (o + 18) [(1, o + 1, 100, 76), (5, o + 2, 100, 5), (7, o + 3, 100, 8), (8, o + 4, 100, 8), (9, o + 5, 100, 8), (10, o + 6, 100, 8), (11, o + 7, 100, 8), (12, o + 8, 101, 8), (13, o + 9, 100, 8), (14, o + 10, 101, 64), (19, o + 11, 100, 5), (20, o + 12, 100, 5), (22, o + 13, 100, 40), (23, o + 14, 101, 64), (24, o + 15, 100, 350), (26, o + 16, 100, 86), (27, o + 17, 101, 2)] [] (pv_sr (pv_newO g19 101 2) o 27 (some g19.1)) (pv_newH g19 h19) (fun j => if j = 17 then 9 else (fun j => if j = 16 then 9 else (fun j => if j = 4 then 2 else (h o) j) j) j) := A19.arr 27 101 2 (by simp)
  have T20 : (pv_tg (pv_sr (pv_newO g19 101 2) o 27 (some g19.1)) o).1 = 10 := by rw [sr_tg, nO_t (by omega)]; exact T19
  generalize pv_sr (pv_newO g19 101 2) o 27 (some g19.1) = g20 at A20 T20 ⊢
  generalize pv_newH g19 h19 = h20 at A20 ⊢
  clear A19 T19 b19
  show pv_E d 99 P 154 _ [] 17 753 _ _
  have b20 : g20.1 = o + 18 := A20.1
  rw [z99_154, z99_155, n99_157]
  refine ⟨by omega, by decide, by decide, ?_⟩
  rw [z99_159]
  refine ⟨by rw [nO_t (by omega)]; exact T20, ?_⟩
  have A21 : AL g h o (o + 19) [(1, o + 1, 100, 76), (5, o + 2, 100, 5), (7, o + 3, 100, 8), (8, o + 4, 100, 8), (9, o + 5, 100, 8), (10, o + 6, 100, 8), (11, o + 7, 100, 8), (12, o + 8, 101, 8), (13, o + 9, 100, 8), (14, o + 10, 101, 64), (19, o + 11, 100, 5), (20, o + 12, 100, 5), (22, o + 13, 100, 40), (23, o + 14, 101, 64), (24, o + 15, 100, 350), (26, o + 16, 100, 86), (27, o + 17, 101, 2), (28, o + 18, 100, 32)] [] (pv_sr (pv_newO g20 100 32) o 28 (some g20.1)) (pv_newH g20 h20) (fun j => if j = 17 then 9 else (fun j => if j = 16 then 9 else (fun j => if j = 4 then 2 else (h o) j) j) j) := A20.arr 28 100 32 (by simp)
  have T21 : (pv_tg (pv_sr (pv_newO g20 100 32) o 28 (some g20.1)) o).1 = 10 := by rw [sr_tg, nO_t (by omega)]; exact T20
  generalize pv_sr (pv_newO g20 100 32) o 28 (some g20.1) = g21 at A21 T21 ⊢
  generalize pv_newH g20 h20 = h21 at A21 ⊢
  clear A20 T20 b20
  show pv_E d 99 P 162 _ [] 18 785 _ _
  have b21 : g21.1 = o + 19 := A21.1
  rw [z99_162, z99_163, n99_165]
  refine ⟨by omega, by decide, by decide, ?_⟩
  rw [z99_167]
  refine ⟨by rw [nO_t (by omega)]; exact T21, ?_⟩
  have A22 : AL g h o (o + 20) [(1, o + 1, 100, 76), (5, o + 2, 100, 5), (7, o + 3, 100, 8), (8, o + 4, 100, 8), (9, o + 5, 100, 8), (10, o + 6, 100, 8), (11, o + 7, 100, 8), (12, o + 8, 101, 8), (13, o + 9, 100, 8), (14, o + 10, 101, 64), (19, o + 11, 100, 5), (20, o + 12, 100, 5), (22, o + 13, 100, 40), (23, o + 14, 101, 64), (24, o + 15, 100, 350), (26, o + 16, 100, 86), (27, o + 17, 101, 2), (28, o + 18, 100, 32), (29, o + 19, 100, 32)] [] (pv_sr (pv_newO g21 100 32) o 29 (some g21.1)) (pv_newH g21 h21) (fun j => if j = 17 then 9 else (fun j => if j = 16 then 9 else (fun j => if j = 4 then 2 else (h o) j) j) j) := A21.arr 29 100 32 (by simp)
  have T22 : (pv_tg (pv_sr (pv_newO g21 100 32) o 29 (some g21.1)) o).1 = 10 := by rw [sr_tg, nO_t (by omega)]; exact T21
  generalize pv_sr (pv_newO g21 100 32) o 29 (some g21.1) = g22 at A22 T22 ⊢
  generalize pv_newH g21 h21 = h22 at A22 ⊢
  clear A21 T21 b21
  show pv_E d 99 P 170 _ [] 19 817 _ _
  have b22 : g22.1 = o + 20 := A22.1
  rw [z99_170, z99_171, n99_173]
  refine ⟨by omega, by decide, by decide, ?_⟩
  rw [z99_175]
  refine ⟨by rw [nO_t (by omega)]; exact T22, ?_⟩
  have A23 : AL g h o (o + 21) [(1, o + 1, 100, 76), (5, o + 2, 100, 5), (7, o + 3, 100, 8), (8, o + 4, 100, 8), (9, o + 5, 100, 8), (10, o + 6, 100, 8), (11, o + 7, 100, 8), (12, o + 8, 101, 8), (13, o + 9, 100, 8), (14, o + 10, 101, 64), (19, o + 11, 100, 5), (20, o + 12, 100, 5), (22, o + 13, 100, 40), (23, o + 14, 101, 64), (24, o + 15, 100, 350), (26, o + 16, 100, 86), (27, o + 17, 101, 2), (28, o + 18, 100, 32), (29, o + 19, 100, 32), (30, o + 20, 101, 32)] [] (pv_sr (pv_newO g22 101 32) o 30 (some g22.1)) (pv_newH g22 h22) (fun j => if j = 17 then 9 else (fun j => if j = 16 then 9 else (fun j => if j = 4 then 2 else (h o) j) j) j) := A22.arr 30 101 32 (by simp)
  have T23 : (pv_tg (pv_sr (pv_newO g22 101 32) o 30 (some g22.1)) o).1 = 10 := by rw [sr_tg, nO_t (by omega)]; exact T22
  generalize pv_sr (pv_newO g22 101 32) o 30 (some g22.1) = g23 at A23 T23 ⊢
  generalize pv_newH g22 h22 = h23 at A23 ⊢
  clear A22 T22 b22
  show pv_E d 99 P 178 _ [] 20 849 _ _
  have b23 : g23.1 = o + 21 := A23.1
  rw [z99_178, z99_179, n99_180]
  refine ⟨by omega, by decide, by decide, ?_⟩
  rw [z99_182]
  refine ⟨by rw [nO_t (by omega)]; exact T23, ?_⟩
  have A24 : AL g h o (o + 22) [(1, o + 1, 100, 76), (5, o + 2, 100, 5), (7, o + 3, 100, 8), (8, o + 4, 100, 8), (9, o + 5, 100, 8), (10, o + 6, 100, 8), (11, o + 7, 100, 8), (12, o + 8, 101, 8), (13, o + 9, 100, 8), (14, o + 10, 101, 64), (19, o + 11, 100, 5), (20, o + 12, 100, 5), (22, o + 13, 100, 40), (23, o + 14, 101, 64), (24, o + 15, 100, 350), (26, o + 16, 100, 86), (27, o + 17, 101, 2), (28, o + 18, 100, 32), (29, o + 19, 100, 32), (30, o + 20, 101, 32), (31, o + 21, 100, 4)] [] (pv_sr (pv_newO g23 100 4) o 31 (some g23.1)) (pv_newH g23 h23) (fun j => if j = 17 then 9 else (fun j => if j = 16 then 9 else (fun j => if j = 4 then 2 else (h o) j) j) j) := A23.arr 31 100 4 (by simp)
  have T24 : (pv_tg (pv_sr (pv_newO g23 100 4) o 31 (some g23.1)) o).1 = 10 := by rw [sr_tg, nO_t (by omega)]; exact T23
  generalize pv_sr (pv_newO g23 100 4) o 31 (some g23.1) = g24 at A24 T24 ⊢
  generalize pv_newH g23 h23 = h24 at A24 ⊢
  clear A23 T23 b23
  show pv_E d 99 P 185 _ [] 21 853 _ _
  have b24 : g24.1 = o + 22 := A24.1
  rw [z99_185, z99_186, n99_188]
  refine ⟨by omega, by decide, by decide, ?_⟩
  rw [z99_190]
  refine ⟨by rw [nO_t (by omega)]; exact T24, ?_⟩
  have A25 : AL g h o (o + 23) [(1, o + 1, 100, 76), (5, o + 2, 100, 5), (7, o + 3, 100, 8), (8, o + 4, 100, 8), (9, o + 5, 100, 8), (10, o + 6, 100, 8), (11, o + 7, 100, 8), (12, o + 8, 101, 8), (13, o + 9, 100, 8), (14, o + 10, 101, 64), (19, o + 11, 100, 5), (20, o + 12, 100, 5), (22, o + 13, 100, 40), (23, o + 14, 101, 64), (24, o + 15, 100, 350), (26, o + 16, 100, 86), (27, o + 17, 101, 2), (28, o + 18, 100, 32), (29, o + 19, 100, 32), (30, o + 20, 101, 32), (31, o + 21, 100, 4), (34, o + 22, 100, 8)] [] (pv_sr (pv_newO g24 100 8) o 34 (some g24.1)) (pv_newH g24 h24) (fun j => if j = 17 then 9 else (fun j => if j = 16 then 9 else (fun j => if j = 4 then 2 else (h o) j) j) j) := A24.arr 34 100 8 (by simp)
  have T25 : (pv_tg (pv_sr (pv_newO g24 100 8) o 34 (some g24.1)) o).1 = 10 := by rw [sr_tg, nO_t (by omega)]; exact T24
  generalize pv_sr (pv_newO g24 100 8) o 34 (some g24.1) = g25 at A25 T25 ⊢
  generalize pv_newH g24 h24 = h25 at A25 ⊢
  clear A24 T24 b24
  show pv_E d 99 P 193 _ [] 22 861 _ _
  have b25 : g25.1 = o + 23 := A25.1
  rw [z99_193, z99_194, n99_196]
  refine ⟨by omega, by decide, by decide, ?_⟩
  rw [z99_198]
  refine ⟨by rw [nO_t (by omega)]; exact T25, ?_⟩
  have A26 : AL g h o (o + 24) [(1, o + 1, 100, 76), (5, o + 2, 100, 5), (7, o + 3, 100, 8), (8, o + 4, 100, 8), (9, o + 5, 100, 8), (10, o + 6, 100, 8), (11, o + 7, 100, 8), (12, o + 8, 101, 8), (13, o + 9, 100, 8), (14, o + 10, 101, 64), (19, o + 11, 100, 5), (20, o + 12, 100, 5), (22, o + 13, 100, 40), (23, o + 14, 101, 64), (24, o + 15, 100, 350), (26, o + 16, 100, 86), (27, o + 17, 101, 2), (28, o + 18, 100, 32), (29, o + 19, 100, 32), (30, o + 20, 101, 32), (31, o + 21, 100, 4), (34, o + 22, 100, 8), (35, o + 23, 100, 8)] [] (pv_sr (pv_newO g25 100 8) o 35 (some g25.1)) (pv_newH g25 h25) (fun j => if j = 17 then 9 else (fun j => if j = 16 then 9 else (fun j => if j = 4 then 2 else (h o) j) j) j) := A25.arr 35 100 8 (by simp)
  have T26 : (pv_tg (pv_sr (pv_newO g25 100 8) o 35 (some g25.1)) o).1 = 10 := by rw [sr_tg, nO_t (by omega)]; exact T25
  generalize pv_sr (pv_newO g25 100 8) o 35 (some g25.1) = g26 at A26 T26 ⊢
  generalize pv_newH g25 h25 = h26 at A26 ⊢
  clear A25 T25 b25
  show pv_E d 99 P 201 _ [] 23 869 _ _
  have b26 : g26.1 = o + 24 := A26.1
  rw [z99_201, z99_202, n99_203]
  refine ⟨by omega, by decide, by decide, ?_⟩
  rw [z99_205]
  refine ⟨by rw [nO_t (by omega)]; exact T26, ?_⟩
  have A27 : AL g h o (o + 25) [(1, o + 1, 100, 76), (5, o + 2, 100, 5), (7, o + 3, 100, 8), (8, o + 4, 100, 8), (9, o + 5, 100, 8), (10, o + 6, 100, 8), (11, o + 7, 100, 8), (12, o + 8, 101, 8), (13, o + 9, 100, 8), (14, o + 10, 101, 64), (19, o + 11, 100, 5), (20, o + 12, 100, 5), (22, o + 13, 100, 40), (23, o + 14, 101, 64), (24, o + 15, 100, 350), (26, o + 16, 100, 86), (27, o + 17, 101, 2), (28, o + 18, 100, 32), (29, o + 19, 100, 32), (30, o + 20, 101, 32), (31, o + 21, 100, 4), (34, o + 22, 100, 8), (35, o + 23, 100, 8), (36, o + 24, 100, 5)] [] (pv_sr (pv_newO g26 100 5) o 36 (some g26.1)) (pv_newH g26 h26) (fun j => if j = 17 then 9 else (fun j => if j = 16 then 9 else (fun j => if j = 4 then 2 else (h o) j) j) j) := A26.arr 36 100 5 (by simp)
  have T27 : (pv_tg (pv_sr (pv_newO g26 100 5) o 36 (some g26.1)) o).1 = 10 := by rw [sr_tg, nO_t (by omega)]; exact T26
  generalize pv_sr (pv_newO g26 100 5) o 36 (some g26.1) = g27 at A27 T27 ⊢
  generalize pv_newH g26 h26 = h27 at A27 ⊢
  clear A26 T26 b26
  show pv_E d 99 P 208 _ [] 24 874 _ _
  rw [z99_208]
  exact hP _ _ A27
