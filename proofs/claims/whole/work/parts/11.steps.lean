/-! STEPS: what an instruction makes of a frame, as equations; the printed rows of each site (parts 12..) are these at their places -/
def pv_Fr (d id : Nat) (P : PvP) : PvQ := (pv_run d, pv_ow id, pv_in id, pv_rt id, pv_mc id, pv_ms id, P, none)
def pv_E (d id : Nat) (P : PvP) : PvX := pv_Ev (pv_Fr d id P) (pv_cd id)
section PE
variable {d id pc : Nat} {P : PvP} {ls : PvL} {st : List Value} {cs ss : Nat} {g : PvG} {h : PvH}
theorem pe_go {i : Instr} {n : Nat} (hd : decode (pv_cd id) pc = .ok (i, n)) : pv_E d id P pc ls st cs ss g h = pv_sem (pv_Fr d id P) (pv_E d id P) i n pc ls st cs ss g h := by
  unfold pv_E
  rw [pv_Ev_eq (q := pv_Fr d id P) (pv_run_m d)]
  unfold pv_stp
  rw [hd]
theorem pe_iconst {c : Int} {v : Int32} (hd : decode (pv_cd id) pc = .ok (.iconst c, 1)) (hv : Int32.ofInt c = v) : pv_E d id P pc ls st cs ss g h = pv_E d id P (pc + 1) ls (.int v :: st) cs ss g h := by
  rw [pe_go hd]; simp [pv_sem, hv]
theorem pe_bipush {c : Int} {v : Int32} (hd : decode (pv_cd id) pc = .ok (.bipush c, 2)) (hv : (Int8.ofInt c).toInt32 = v) : pv_E d id P pc ls st cs ss g h = pv_E d id P (pc + 2) ls (.int v :: st) cs ss g h := by
  rw [pe_go hd]; simp [pv_sem, hv]
theorem pe_sipush {c : Int} {v : Int32} (hd : decode (pv_cd id) pc = .ok (.sipush c, 3)) (hv : (Int16.ofInt c).toInt32 = v) : pv_E d id P pc ls st cs ss g h = pv_E d id P (pc + 3) ls (.int v :: st) cs ss g h := by
  rw [pe_go hd]; simp [pv_sem, hv]
theorem pe_lconst {c : Fin 2} {v : Int64} (hd : decode (pv_cd id) pc = .ok (.lconst c, 1)) (hv : Int64.ofNat (c : Nat) = v) : pv_E d id P pc ls st cs ss g h = pv_E d id P (pc + 1) ls (.long v :: st) cs ss g h := by
  rw [pe_go hd]; simp only [pv_sem, hv, true_and]
theorem pe_ldc {k : Nat} {e : Nat × Nat × Int32 × Nat} (hd : decode (pv_cd id) pc = .ok (.ldc k, 2)) (hv : pv_kc (pv_ow id) k = some e) : pv_E d id P pc ls st cs ss g h = pv_E d id P (pc + 2) ls (.int e.2.2.1 :: st) cs ss g h := by
  rw [pe_go hd]; simp [pv_sem, pv_Fr, hv]
theorem pe_ldc_w {k : Nat} {e : Nat × Nat × Int32 × Nat} (hd : decode (pv_cd id) pc = .ok (.ldc_w k, 3)) (hv : pv_kc (pv_ow id) k = some e) : pv_E d id P pc ls st cs ss g h = pv_E d id P (pc + 3) ls (.int e.2.2.1 :: st) cs ss g h := by
  rw [pe_go hd]; simp [pv_sem, pv_Fr, hv]
theorem pe_ldc2 {k : Nat} {e : Nat × Nat × Int64 × Nat} (hd : decode (pv_cd id) pc = .ok (.ldc2_w k, 3)) (hv : pv_kl (pv_ow id) k = some e) : pv_E d id P pc ls st cs ss g h = pv_E d id P (pc + 3) ls (.long e.2.2.1 :: st) cs ss g h := by
  rw [pe_go hd]; simp [pv_sem, pv_Fr, hv]
theorem pe_iload_n {k : Fin 4} {x : Int32} (hd : decode (pv_cd id) pc = .ok (.iload_n k, 1)) (hl : ls[(k : Nat)]? = some (some (.int x))) : pv_E d id P pc ls st cs ss g h = pv_E d id P (pc + 1) ls (.int x :: st) cs ss g h := by
  rw [pe_go hd]; simp [pv_sem, pv_li1, hl]
theorem pe_iload {k : Nat} {x : Int32} (hd : decode (pv_cd id) pc = .ok (.iload k, 2)) (hl : ls[k]? = some (some (.int x))) : pv_E d id P pc ls st cs ss g h = pv_E d id P (pc + 2) ls (.int x :: st) cs ss g h := by
  rw [pe_go hd]; simp [pv_sem, pv_li1, hl]
theorem pe_lload_n {k : Fin 4} {x : Int64} (hd : decode (pv_cd id) pc = .ok (.lload_n k, 1)) (hl : ls[(k : Nat)]? = some (some (.long x))) : pv_E d id P pc ls st cs ss g h = pv_E d id P (pc + 1) ls (.long x :: st) cs ss g h := by
  rw [pe_go hd]; simp [pv_sem, pv_ll1, hl]
theorem pe_lload {k : Nat} {x : Int64} (hd : decode (pv_cd id) pc = .ok (.lload k, 2)) (hl : ls[k]? = some (some (.long x))) : pv_E d id P pc ls st cs ss g h = pv_E d id P (pc + 2) ls (.long x :: st) cs ss g h := by
  rw [pe_go hd]; simp [pv_sem, pv_ll1, hl]
theorem pe_aload_n {k : Fin 4} {x : Nat} (hd : decode (pv_cd id) pc = .ok (.aload_n k, 1)) (hl : ls[(k : Nat)]? = some (some (.ref x))) : pv_E d id P pc ls st cs ss g h = pv_E d id P (pc + 1) ls (.ref x :: st) cs ss g h := by
  rw [pe_go hd]; simp [pv_sem, pv_lr1, hl]
theorem pe_aload {k : Nat} {x : Nat} (hd : decode (pv_cd id) pc = .ok (.aload k, 2)) (hl : ls[k]? = some (some (.ref x))) : pv_E d id P pc ls st cs ss g h = pv_E d id P (pc + 2) ls (.ref x :: st) cs ss g h := by
  rw [pe_go hd]; simp [pv_sem, pv_lr1, hl]
theorem pe_istore_n {k : Fin 4} {x : Int32} {ls' : PvL} (hd : decode (pv_cd id) pc = .ok (.istore_n k, 1)) (hk : (k : Nat) < ls.length) (ho : pv_ok ls k = true) (hs : ls.set k (some (.int x)) = ls') : pv_E d id P pc ls (.int x :: st) cs ss g h = pv_E d id P (pc + 1) ls' st cs ss g h := by
  rw [pe_go hd]; simp only [pv_sem, pv_i1, hk, ho, hs, true_and]
theorem pe_istore {k : Nat} {x : Int32} {ls' : PvL} (hd : decode (pv_cd id) pc = .ok (.istore k, 2)) (hk : k < ls.length) (ho : pv_ok ls k = true) (hs : ls.set k (some (.int x)) = ls') : pv_E d id P pc ls (.int x :: st) cs ss g h = pv_E d id P (pc + 2) ls' st cs ss g h := by
  rw [pe_go hd]; simp only [pv_sem, pv_i1, hk, ho, hs, true_and]
theorem pe_lstore_n {k : Fin 4} {x : Int64} {ls' : PvL} (hd : decode (pv_cd id) pc = .ok (.lstore_n k, 1)) (hk : (k : Nat) + 1 < ls.length) (ho : pv_ok ls k = true) (hs : (ls.set k (some (.long x))).set (k + 1) none = ls') : pv_E d id P pc ls (.long x :: st) cs ss g h = pv_E d id P (pc + 1) ls' st cs ss g h := by
  rw [pe_go hd]; simp only [pv_sem, pv_l1, hk, ho, hs, true_and]
theorem pe_lstore {k : Nat} {x : Int64} {ls' : PvL} (hd : decode (pv_cd id) pc = .ok (.lstore k, 2)) (hk : k + 1 < ls.length) (ho : pv_ok ls k = true) (hs : (ls.set k (some (.long x))).set (k + 1) none = ls') : pv_E d id P pc ls (.long x :: st) cs ss g h = pv_E d id P (pc + 2) ls' st cs ss g h := by
  rw [pe_go hd]; simp only [pv_sem, pv_l1, hk, ho, hs, true_and]
theorem pe_astore_n {k : Fin 4} {x : Nat} {ls' : PvL} (hd : decode (pv_cd id) pc = .ok (.astore_n k, 1)) (hk : (k : Nat) < ls.length) (ho : pv_ok ls k = true) (hs : ls.set k (some (.ref x)) = ls') : pv_E d id P pc ls (.ref x :: st) cs ss g h = pv_E d id P (pc + 1) ls' st cs ss g h := by
  rw [pe_go hd]; simp only [pv_sem, pv_r1, hk, ho, hs, true_and]
theorem pe_astore {k : Nat} {x : Nat} {ls' : PvL} (hd : decode (pv_cd id) pc = .ok (.astore k, 2)) (hk : k < ls.length) (ho : pv_ok ls k = true) (hs : ls.set k (some (.ref x)) = ls') : pv_E d id P pc ls (.ref x :: st) cs ss g h = pv_E d id P (pc + 2) ls' st cs ss g h := by
  rw [pe_go hd]; simp only [pv_sem, pv_r1, hk, ho, hs, true_and]
theorem pe_iinc {k : Nat} {c : Int} {v x : Int32} {ls' : PvL} (hd : decode (pv_cd id) pc = .ok (.iinc k c, 3)) (hv : Int32.ofInt c = v) (hl : ls[k]? = some (some (.int x))) (hk : k < ls.length) (ho : pv_ok ls k = true) (hs : ls.set k (some (.int (x + v))) = ls') : pv_E d id P pc ls st cs ss g h = pv_E d id P (pc + 3) ls' st cs ss g h := by
  rw [pe_go hd]; simp only [pv_sem, pv_li1, hk, ho, hl, hv, hs, true_and]
theorem pe_iadd {a b : Int32} (hd : decode (pv_cd id) pc = .ok (.iadd, 1)) : pv_E d id P pc ls (.int b :: .int a :: st) cs ss g h = pv_E d id P (pc + 1) ls (.int (a + b) :: st) cs ss g h := by
  rw [pe_go hd]; simp only [pv_sem, pv_i2, true_and]
theorem pe_isub {a b : Int32} (hd : decode (pv_cd id) pc = .ok (.isub, 1)) : pv_E d id P pc ls (.int b :: .int a :: st) cs ss g h = pv_E d id P (pc + 1) ls (.int (a - b) :: st) cs ss g h := by
  rw [pe_go hd]; simp only [pv_sem, pv_i2, true_and]
theorem pe_imul {a b : Int32} (hd : decode (pv_cd id) pc = .ok (.imul, 1)) : pv_E d id P pc ls (.int b :: .int a :: st) cs ss g h = pv_E d id P (pc + 1) ls (.int (a * b) :: st) cs ss g h := by
  rw [pe_go hd]; simp only [pv_sem, pv_i2, true_and]
theorem pe_iand {a b : Int32} (hd : decode (pv_cd id) pc = .ok (.iand, 1)) : pv_E d id P pc ls (.int b :: .int a :: st) cs ss g h = pv_E d id P (pc + 1) ls (.int (a &&& b) :: st) cs ss g h := by
  rw [pe_go hd]; simp only [pv_sem, pv_i2, true_and]
theorem pe_ior {a b : Int32} (hd : decode (pv_cd id) pc = .ok (.ior, 1)) : pv_E d id P pc ls (.int b :: .int a :: st) cs ss g h = pv_E d id P (pc + 1) ls (.int (a ||| b) :: st) cs ss g h := by
  rw [pe_go hd]; simp only [pv_sem, pv_i2, true_and]
theorem pe_ixor {a b : Int32} (hd : decode (pv_cd id) pc = .ok (.ixor, 1)) : pv_E d id P pc ls (.int b :: .int a :: st) cs ss g h = pv_E d id P (pc + 1) ls (.int (a ^^^ b) :: st) cs ss g h := by
  rw [pe_go hd]; simp only [pv_sem, pv_i2, true_and]
theorem pe_idiv {a b : Int32} (hd : decode (pv_cd id) pc = .ok (.idiv, 1)) : pv_E d id P pc ls (.int b :: .int a :: st) cs ss g h = (¬ b = 0 ∧ pv_E d id P (pc + 1) ls (.int (a / b) :: st) cs ss g h) := by
  rw [pe_go hd]; simp only [pv_sem, pv_i2, true_and]
theorem pe_irem {a b : Int32} (hd : decode (pv_cd id) pc = .ok (.irem, 1)) : pv_E d id P pc ls (.int b :: .int a :: st) cs ss g h = (¬ b = 0 ∧ pv_E d id P (pc + 1) ls (.int (a - a / b * b) :: st) cs ss g h) := by
  rw [pe_go hd]; simp only [pv_sem, pv_i2, true_and]
theorem pe_ishl {a b : Int32} (hd : decode (pv_cd id) pc = .ok (.ishl, 1)) : pv_E d id P pc ls (.int b :: .int a :: st) cs ss g h = pv_E d id P (pc + 1) ls (.int (a <<< (b &&& 31)) :: st) cs ss g h := by
  rw [pe_go hd]; simp only [pv_sem, pv_i2, true_and]
theorem pe_ishr {a b : Int32} (hd : decode (pv_cd id) pc = .ok (.ishr, 1)) : pv_E d id P pc ls (.int b :: .int a :: st) cs ss g h = pv_E d id P (pc + 1) ls (.int (a >>> (b &&& 31)) :: st) cs ss g h := by
  rw [pe_go hd]; simp only [pv_sem, pv_i2, true_and]
theorem pe_iushr {a b : Int32} (hd : decode (pv_cd id) pc = .ok (.iushr, 1)) : pv_E d id P pc ls (.int b :: .int a :: st) cs ss g h = pv_E d id P (pc + 1) ls (.int ((a.toUInt32 >>> (b.toUInt32 &&& Int32.toUInt32 31)).toInt32) :: st) cs ss g h := by
  rw [pe_go hd]; simp only [pv_sem, pv_i2, true_and]
theorem pe_ladd {a b : Int64} (hd : decode (pv_cd id) pc = .ok (.ladd, 1)) : pv_E d id P pc ls (.long b :: .long a :: st) cs ss g h = pv_E d id P (pc + 1) ls (.long (a + b) :: st) cs ss g h := by
  rw [pe_go hd]; simp only [pv_sem, pv_l2, true_and]
theorem pe_lsub {a b : Int64} (hd : decode (pv_cd id) pc = .ok (.lsub, 1)) : pv_E d id P pc ls (.long b :: .long a :: st) cs ss g h = pv_E d id P (pc + 1) ls (.long (a - b) :: st) cs ss g h := by
  rw [pe_go hd]; simp only [pv_sem, pv_l2, true_and]
theorem pe_lmul {a b : Int64} (hd : decode (pv_cd id) pc = .ok (.lmul, 1)) : pv_E d id P pc ls (.long b :: .long a :: st) cs ss g h = pv_E d id P (pc + 1) ls (.long (a * b) :: st) cs ss g h := by
  rw [pe_go hd]; simp only [pv_sem, pv_l2, true_and]
theorem pe_land {a b : Int64} (hd : decode (pv_cd id) pc = .ok (.land, 1)) : pv_E d id P pc ls (.long b :: .long a :: st) cs ss g h = pv_E d id P (pc + 1) ls (.long (a &&& b) :: st) cs ss g h := by
  rw [pe_go hd]; simp only [pv_sem, pv_l2, true_and]
theorem pe_lor {a b : Int64} (hd : decode (pv_cd id) pc = .ok (.lor, 1)) : pv_E d id P pc ls (.long b :: .long a :: st) cs ss g h = pv_E d id P (pc + 1) ls (.long (a ||| b) :: st) cs ss g h := by
  rw [pe_go hd]; simp only [pv_sem, pv_l2, true_and]
theorem pe_ldiv {a b : Int64} (hd : decode (pv_cd id) pc = .ok (.ldiv, 1)) : pv_E d id P pc ls (.long b :: .long a :: st) cs ss g h = (¬ b = 0 ∧ pv_E d id P (pc + 1) ls (.long (a / b) :: st) cs ss g h) := by
  rw [pe_go hd]; simp only [pv_sem, pv_l2, true_and]
theorem pe_lrem {a b : Int64} (hd : decode (pv_cd id) pc = .ok (.lrem, 1)) : pv_E d id P pc ls (.long b :: .long a :: st) cs ss g h = (¬ b = 0 ∧ pv_E d id P (pc + 1) ls (.long (a - a / b * b) :: st) cs ss g h) := by
  rw [pe_go hd]; simp only [pv_sem, pv_l2, true_and]
theorem pe_lshl {a : Int64} {b : Int32} (hd : decode (pv_cd id) pc = .ok (.lshl, 1)) : pv_E d id P pc ls (.int b :: .long a :: st) cs ss g h = pv_E d id P (pc + 1) ls (.long (a <<< (b.toInt64 &&& 63)) :: st) cs ss g h := by
  rw [pe_go hd]; simp only [pv_sem, pv_li, true_and]
theorem pe_lshr {a : Int64} {b : Int32} (hd : decode (pv_cd id) pc = .ok (.lshr, 1)) : pv_E d id P pc ls (.int b :: .long a :: st) cs ss g h = pv_E d id P (pc + 1) ls (.long (a >>> (b.toInt64 &&& 63)) :: st) cs ss g h := by
  rw [pe_go hd]; simp only [pv_sem, pv_li, true_and]
theorem pe_lushr {a : Int64} {b : Int32} (hd : decode (pv_cd id) pc = .ok (.lushr, 1)) : pv_E d id P pc ls (.int b :: .long a :: st) cs ss g h = pv_E d id P (pc + 1) ls (.long ((a.toUInt64 >>> (b.toInt64.toUInt64 &&& Int64.toUInt64 63)).toInt64) :: st) cs ss g h := by
  rw [pe_go hd]; simp only [pv_sem, pv_li, true_and]
theorem pe_lcmp {a b : Int64} (hd : decode (pv_cd id) pc = .ok (.lcmp, 1)) : pv_E d id P pc ls (.long b :: .long a :: st) cs ss g h = pv_E d id P (pc + 1) ls (.int (lg_cmp a b) :: st) cs ss g h := by
  rw [pe_go hd]; simp only [pv_sem, pv_l2, true_and]
theorem pe_i2l {a : Int32} (hd : decode (pv_cd id) pc = .ok (.i2l, 1)) : pv_E d id P pc ls (.int a :: st) cs ss g h = pv_E d id P (pc + 1) ls (.long a.toInt64 :: st) cs ss g h := by
  rw [pe_go hd]; simp only [pv_sem, pv_i1, true_and]
theorem pe_l2i {a : Int64} (hd : decode (pv_cd id) pc = .ok (.l2i, 1)) : pv_E d id P pc ls (.long a :: st) cs ss g h = pv_E d id P (pc + 1) ls (.int a.toInt32 :: st) cs ss g h := by
  rw [pe_go hd]; simp only [pv_sem, pv_l1, true_and]
theorem pe_dupI {a : Int32} (hd : decode (pv_cd id) pc = .ok (.dup, 1)) : pv_E d id P pc ls (.int a :: st) cs ss g h = pv_E d id P (pc + 1) ls (.int a :: .int a :: st) cs ss g h := by
  rw [pe_go hd]; simp [pv_sem, pv_v1, Value.category]
theorem pe_dupR {a : Nat} (hd : decode (pv_cd id) pc = .ok (.dup, 1)) : pv_E d id P pc ls (.ref a :: st) cs ss g h = pv_E d id P (pc + 1) ls (.ref a :: .ref a :: st) cs ss g h := by
  rw [pe_go hd]; simp [pv_sem, pv_v1, Value.category]
theorem pe_dup2 {a : Nat} {i : Int32} (hd : decode (pv_cd id) pc = .ok (.dup2, 1)) : pv_E d id P pc ls (.int i :: .ref a :: st) cs ss g h = pv_E d id P (pc + 1) ls (.int i :: .ref a :: .int i :: .ref a :: st) cs ss g h := by
  rw [pe_go hd]; simp [pv_sem, pv_v2, Value.category]
theorem pe_if {c : ClassFile.Cond} {off : Int} {t : Nat} {x : Int32} (hd : decode (pv_cd id) pc = .ok (.ifCond c off, 3)) (ht : (pc : Int) + off = (t : Int)) : pv_E d id P pc ls (.int x :: st) cs ss g h = ((pv_c0 c x → pv_E d id P t ls st cs ss g h) ∧ (¬ pv_c0 c x → pv_E d id P (pc + 3) ls st cs ss g h)) := by
  rw [pe_go hd]; simp [pv_sem, pv_i1, pv_go, ht]
theorem pe_icmp {c : ClassFile.Cond} {off : Int} {t : Nat} {x y : Int32} (hd : decode (pv_cd id) pc = .ok (.if_icmp c off, 3)) (ht : (pc : Int) + off = (t : Int)) : pv_E d id P pc ls (.int y :: .int x :: st) cs ss g h = ((pv_c2 c x y → pv_E d id P t ls st cs ss g h) ∧ (¬ pv_c2 c x y → pv_E d id P (pc + 3) ls st cs ss g h)) := by
  rw [pe_go hd]; simp [pv_sem, pv_i2, pv_go, ht]
theorem pe_goto {off : Int} {t : Nat} (hd : decode (pv_cd id) pc = .ok (.goto off, 3)) (ht : (pc : Int) + off = (t : Int)) : pv_E d id P pc ls st cs ss g h = pv_E d id P t ls st cs ss g h := by
  rw [pe_go hd]; simp [pv_sem, pv_go, ht]
theorem pe_getI {k o : Nat} {e : Nat × Nat × Nat × Nat × Nat} (hd : decode (pv_cd id) pc = .ok (.getfield k, 3)) (he : pv_fl (pv_ow id) k = some e) (hk : pv_K e.2.2.1 e.2.2.2.1 ≠ 2) : pv_E d id P pc ls (.ref o :: st) cs ss g h = ((pv_tg g o).1 = e.2.2.1 ∧ pv_E d id P (pc + 3) ls (.int (h o e.2.2.2.1) :: st) cs ss g h) := by
  rw [pe_go hd]; simp only [pv_sem, pv_Fr, he, pv_r1, if_neg hk, true_and]
theorem pe_getR {k o : Nat} {e : Nat × Nat × Nat × Nat × Nat} (hd : decode (pv_cd id) pc = .ok (.getfield k, 3)) (he : pv_fl (pv_ow id) k = some e) (hk : pv_K e.2.2.1 e.2.2.2.1 = 2) : pv_E d id P pc ls (.ref o :: st) cs ss g h = ((pv_tg g o).1 = e.2.2.1 ∧ pv_E d id P (pc + 3) ls (va_rf (pv_rf g o e.2.2.2.1) :: st) cs ss g h) := by
  rw [pe_go hd]; simp only [pv_sem, pv_Fr, he, pv_r1, if_pos hk, true_and]
theorem pe_putI {k o : Nat} {x : Int32} {e : Nat × Nat × Nat × Nat × Nat} (hd : decode (pv_cd id) pc = .ok (.putfield k, 3)) (he : pv_fl (pv_ow id) k = some e) (hf : pv_Fi e.2.2.1 e.2.2.2.1 = true → pv_in id = true ∧ e.2.2.1 = pv_ow id) (hk : pv_K e.2.2.1 e.2.2.2.1 = 0) : pv_E d id P pc ls (.int x :: .ref o :: st) cs ss g h = ((pv_tg g o).1 = e.2.2.1 ∧ pv_E d id P (pc + 3) ls st cs ss g (pv_st h o e.2.2.2.1 x)) := by
  rw [pe_go hd]; simp only [pv_sem, pv_Fr, he, pv_vr, hk, true_and, true_or]
  exact propext ⟨fun q => q.2, fun q => ⟨hf, q⟩⟩
theorem pe_putZ {k o : Nat} {x : Int32} {e : Nat × Nat × Nat × Nat × Nat} (hd : decode (pv_cd id) pc = .ok (.putfield k, 3)) (he : pv_fl (pv_ow id) k = some e) (hf : pv_Fi e.2.2.1 e.2.2.2.1 = true → pv_in id = true ∧ e.2.2.1 = pv_ow id) (hk : pv_K e.2.2.1 e.2.2.2.1 = 1) : pv_E d id P pc ls (.int x :: .ref o :: st) cs ss g h = ((pv_tg g o).1 = e.2.2.1 ∧ (x = 0 ∨ x = 1) ∧ pv_E d id P (pc + 3) ls st cs ss g (pv_st h o e.2.2.2.1 x)) := by
  rw [pe_go hd]; simp only [pv_sem, pv_Fr, he, pv_vr, hk, true_and]
  exact propext ⟨fun q => ⟨q.2.1, q.2.2.1.elim (fun z => by cases z) (fun z => z), q.2.2.2⟩, fun q => ⟨hf, q.1, Or.inr q.2.1, q.2.2⟩⟩
theorem pe_putR {k o x : Nat} {e : Nat × Nat × Nat × Nat × Nat} (hd : decode (pv_cd id) pc = .ok (.putfield k, 3)) (he : pv_fl (pv_ow id) k = some e) (hf : pv_Fi e.2.2.1 e.2.2.2.1 = true → pv_in id = true ∧ e.2.2.1 = pv_ow id) (hk : pv_K e.2.2.1 e.2.2.2.1 = 2) : pv_E d id P pc ls (.ref x :: .ref o :: st) cs ss g h = ((pv_tg g o).1 = e.2.2.1 ∧ pv_E d id P (pc + 3) ls st cs ss (pv_sr g o e.2.2.2.1 (some x)) h) := by
  rw [pe_go hd]; simp only [pv_sem, pv_Fr, he, pv_vr, hk, true_and]
  exact propext ⟨fun q => q.2, fun q => ⟨hf, q⟩⟩
theorem pe_iald {a : Nat} {i : Int32} (hd : decode (pv_cd id) pc = .ok (.iaload, 1)) : pv_E d id P pc ls (.int i :: .ref a :: st) cs ss g h = ((pv_tg g a).1 = 100 ∧ vp_in i (pv_tg g a).2 ∧ pv_E d id P (pc + 1) ls (.int (h a i.toNatClampNeg) :: st) cs ss g h) := by
  rw [pe_go hd]; simp only [pv_sem, pv_Fr, pv_ri, true_and]
theorem pe_iast {a : Nat} {i x : Int32} (hd : decode (pv_cd id) pc = .ok (.iastore, 1)) : pv_E d id P pc ls (.int x :: .int i :: .ref a :: st) cs ss g h = ((pv_tg g a).1 = 100 ∧ vp_in i (pv_tg g a).2 ∧ pv_E d id P (pc + 1) ls st cs ss g (pv_st h a i.toNatClampNeg x)) := by
  rw [pe_go hd]; simp only [pv_sem, pv_rii, true_and]
theorem pe_bald {a : Nat} {i : Int32} (hd : decode (pv_cd id) pc = .ok (.baload, 1)) : pv_E d id P pc ls (.int i :: .ref a :: st) cs ss g h = ((pv_tg g a).1 = 101 ∧ vp_in i (pv_tg g a).2 ∧ pv_E d id P (pc + 1) ls (.int (h a i.toNatClampNeg) :: st) cs ss g h) := by
  rw [pe_go hd]; simp only [pv_sem, pv_ri, true_and]
theorem pe_bast {a : Nat} {i x : Int32} (hd : decode (pv_cd id) pc = .ok (.bastore, 1)) : pv_E d id P pc ls (.int x :: .int i :: .ref a :: st) cs ss g h = ((pv_tg g a).1 = 101 ∧ vp_in i (pv_tg g a).2 ∧ (x = 0 ∨ x = 1) ∧ pv_E d id P (pc + 1) ls st cs ss g (pv_st h a i.toNatClampNeg x)) := by
  rw [pe_go hd]; simp only [pv_sem, pv_rii, true_and]
theorem pe_aald {a : Nat} {i : Int32} (hd : decode (pv_cd id) pc = .ok (.aaload, 1)) : pv_E d id P pc ls (.int i :: .ref a :: st) cs ss g h = (((pv_tg g a).1 = 102 ∨ (pv_tg g a).1 = 103) ∧ vp_in i (pv_tg g a).2 ∧ pv_E d id P (pc + 1) ls (va_rf (pv_rf g a i.toNatClampNeg) :: st) cs ss g h) := by
  rw [pe_go hd]; simp only [pv_sem, pv_ri, true_and]
theorem pe_aast {a x : Nat} {i : Int32} (hd : decode (pv_cd id) pc = .ok (.aastore, 1)) : pv_E d id P pc ls (.ref x :: .int i :: .ref a :: st) cs ss g h = ((pv_tg g a).1 = 102 ∧ (pv_tg g x).1 = 6 ∧ vp_in i (pv_tg g a).2 ∧ pv_E d id P (pc + 1) ls st cs ss (pv_sr g a i.toNatClampNeg (some x)) h) := by
  rw [pe_go hd]; simp only [pv_sem, pv_rir, true_and]
theorem pe_alen {a : Nat} (hd : decode (pv_cd id) pc = .ok (.arraylength, 1)) : pv_E d id P pc ls (.ref a :: st) cs ss g h = ((pv_tg g a).1 = 100 ∧ pv_E d id P (pc + 1) ls (.int (Int32.ofNat (pv_tg g a).2) :: st) cs ss g h) := by
  rw [pe_go hd]; simp only [pv_sem, pv_Fr, pv_r1, true_and]
theorem pe_callV {k : Nat} {e : Nat × Nat × Nat × Nat × List Nat} {o : Nat} {As rest : List Value} (hd : decode (pv_cd id) pc = .ok (.invokevirtual k, 3)) (he : pv_ml (pv_ow id) k = some e) (hk : e.2.2.1 = 0) (hn : As.length = pv_np e.2.2.2.1) (hm : pv_mc e.2.2.2.1 = 0) (hm2 : pv_ms e.2.2.2.1 = 0) (hs : st = As ++ .ref o :: rest) (hc : pv_cat rest ≤ 8) (hcs : cs ≤ pv_mc id) (hss : ss ≤ pv_ms id) :
    pv_E d id P pc ls st cs ss g h = ((pv_tg g o).1 = pv_ow e.2.2.2.1 ∧ pv_run d e.2.2.2.1 (.ref o :: As.reverse) g h (fun v g1 h1 => pv_E d id P (pc + 3) ls (v.toList ++ rest) cs ss g1 h1)) := by
  subst hs
  rw [pe_go hd]
  simp only [pv_sem, pv_Fr, he, hk, pv_cv, pv_ca, hm, hm2, Nat.add_zero, true_and, ← hn, List.take_left, List.drop_left, pv_r1, List.length_append, hc, hcs, hss]
  simp
theorem pe_callI {k : Nat} {e : Nat × Nat × Nat × Nat × List Nat} {o : Nat} {As rest : List Value} (hd : decode (pv_cd id) pc = .ok (.invokespecial k, 3)) (he : pv_ml (pv_ow id) k = some e) (hk : e.2.2.1 = 5) (hn : As.length = pv_np e.2.2.2.1) (hs : st = As ++ .ref o :: rest) (hc : pv_cat rest ≤ 8) (hcs : cs + pv_mc e.2.2.2.1 ≤ pv_mc id) (hss : ss + pv_ms e.2.2.2.1 ≤ pv_ms id) :
    pv_E d id P pc ls st cs ss g h = pv_run d e.2.2.2.1 (.ref o :: As.reverse) g h (fun v g1 h1 => pv_E d id P (pc + 3) ls (v.toList ++ rest) (cs + pv_mc e.2.2.2.1) (ss + pv_ms e.2.2.2.1) g1 h1) := by
  subst hs
  rw [pe_go hd]
  simp only [pv_sem, pv_Fr, he, hk, pv_ci, pv_ca, true_and, ← hn, List.take_left, List.drop_left, pv_r1, List.length_append, hc, hcs, hss]
  simp
theorem pe_callO {k : Nat} {e : Nat × Nat × Nat × Nat × List Nat} {o : Nat} (hd : decode (pv_cd id) pc = .ok (.invokespecial k, 3)) (he : pv_ml (pv_ow id) k = some e) (hk : e.2.2.1 = 6) (hc : pv_cat st ≤ 8) : pv_E d id P pc ls (.ref o :: st) cs ss g h = pv_E d id P (pc + 3) ls st cs ss g h := by
  rw [pe_go hd]
  simp [pv_sem, pv_Fr, he, hk, pv_r1, hc]
theorem pe_callS {k : Nat} {e : Nat × Nat × Nat × Nat × List Nat} {As rest : List Value} (hd : decode (pv_cd id) pc = .ok (.invokestatic k, 3)) (he : pv_ml (pv_ow id) k = some e) (hk : e.2.2.1 = 2 ∨ e.2.2.1 = 3 ∨ e.2.2.1 = 4) (hn : As.length = pv_np e.2.2.2.1) (hm : pv_mc e.2.2.2.1 = 0) (hm2 : pv_ms e.2.2.2.1 = 0) (hs : st = As ++ rest) (hc : pv_cat rest ≤ 8) (hcs : cs ≤ pv_mc id) (hss : ss ≤ pv_ms id) :
    pv_E d id P pc ls st cs ss g h = pv_run d e.2.2.2.1 As.reverse g h (fun v g1 h1 => pv_E d id P (pc + 3) ls (v.toList ++ rest) cs ss g1 h1) := by
  subst hs
  rw [pe_go hd]
  have h8 : ¬ e.2.2.1 = 8 := by omega
  have h7 : ¬ e.2.2.1 = 7 := by omega
  simp only [pv_sem, pv_Fr, he, hk, h7, h8, false_and, false_or, pv_cs, pv_ca, hm, hm2, Nat.add_zero, true_and, ← hn, List.take_left, List.drop_left, List.length_append, hc, hcs, hss]
  simp
theorem pe_max {k : Nat} {e : Nat × Nat × Nat × Nat × List Nat} {x y : Int32} (hd : decode (pv_cd id) pc = .ok (.invokestatic k, 3)) (he : pv_ml (pv_ow id) k = some e) (hk : e.2.2.1 = 8) (hc : pv_cat st ≤ 8) : pv_E d id P pc ls (.int y :: .int x :: st) cs ss g h = pv_E d id P (pc + 3) ls (.int (if x < y then y else x) :: st) cs ss g h := by
  rw [pe_go hd]
  simp [pv_sem, pv_Fr, he, hk, pv_i2, hc]
theorem pe_copy {k : Nat} {e : Nat × Nat × Nat × Nat × List Nat} {sp dp n : Int32} {a0 a : Nat} (hd : decode (pv_cd id) pc = .ok (.invokestatic k, 3)) (he : pv_ml (pv_ow id) k = some e) (hk : e.2.2.1 = 7) (hc : pv_cat st ≤ 8) : pv_E d id P pc ls (.int n :: .int dp :: .ref a :: .int sp :: .ref a0 :: st) cs ss g h = ((pv_tg g a0).1 = 100 ∧ (pv_tg g a).1 = 100 ∧ ¬ sp < 0 ∧ ¬ dp < 0 ∧ ¬ n < 0 ∧ sp.toNatClampNeg + n.toNatClampNeg ≤ (pv_tg g a0).2 ∧ dp.toNatClampNeg + n.toNatClampNeg ≤ (pv_tg g a).2 ∧ pv_E d id P (pc + 3) ls st cs ss g (pv_cpy h a0 a sp.toNatClampNeg dp.toNatClampNeg n.toNatClampNeg)) := by
  rw [pe_go hd]
  simp [pv_sem, pv_Fr, he, hk, pv_ac, hc]
theorem pe_retI {x : Int32} (hd : decode (pv_cd id) pc = .ok (.ireturn, 1)) (hr : pv_rt id = some .int) : pv_E d id P pc ls [.int x] (pv_mc id) (pv_ms id) g h = P (some (.int x)) g h := by
  rw [pe_go hd]; simp [pv_sem, pv_Fr, pv_i1, hr]
theorem pe_retZ {x : Int32} (hd : decode (pv_cd id) pc = .ok (.ireturn, 1)) (hr : pv_rt id = some .boolean) : pv_E d id P pc ls [.int x] (pv_mc id) (pv_ms id) g h = ((x = 0 ∨ x = 1) ∧ P (some (.int x)) g h) := by
  rw [pe_go hd]; simp [pv_sem, pv_Fr, pv_i1, hr]
theorem pe_retL {x : Int64} (hd : decode (pv_cd id) pc = .ok (.lreturn, 1)) (hr : pv_rt id = some .long) : pv_E d id P pc ls [.long x] (pv_mc id) (pv_ms id) g h = P (some (.long x)) g h := by
  rw [pe_go hd]; simp [pv_sem, pv_Fr, pv_l1, hr]
theorem pe_retV (hd : decode (pv_cd id) pc = .ok (.return_, 1)) (hr : pv_rt id = none) : pv_E d id P pc ls [] (pv_mc id) (pv_ms id) g h = P none g h := by
  rw [pe_go hd]; simp [pv_sem, pv_Fr, hr]
/-- a run is its frame from its entry -/
theorem pe_run {y : Nat} {As : List Value} (hy : y < 166) (hl : (pv_sl As).length ≤ pv_mL y) : pv_run (d + 1) y As g h P = pv_E d y P 0 (pv_ent (pv_mL y) As) [] 0 0 g h := propext ⟨fun q => q.2.2, fun q => ⟨hy, hl, q⟩⟩
end PE
/-- a slot that holds no long -/
def pv_nl (x : Option Value) : Bool := match x with
  | some v => !(v.category == 2)
  | none => true
theorem pv_nl_i (a : Int32) : pv_nl (some (.int a)) = true := rfl
theorem pv_nl_r (a : Nat) : pv_nl (some (.ref a)) = true := rfl
theorem pv_nl_n : pv_nl none = true := rfl
def pv_oi (x : Option Int32) : Option Value := x.map .int
theorem pv_nl_o (x : Option Int32) : pv_nl (pv_oi x) = true := by cases x <;> rfl
theorem pv_okn {ls : PvL} {k : Nat} {x : Option Value} (hk : pv_nl x = true) (hx : ls[k]? = some x := by rfl) : pv_ok ls (k + 1) = true := by
  unfold pv_ok
  simp only [hx]
  cases x <;> first | rfl | exact hk
