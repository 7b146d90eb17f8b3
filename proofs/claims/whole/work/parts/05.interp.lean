/-! A SMALL MACHINE over logical objects: numbers for references, a map of ints, a map of references. pv_sem is one instruction, pv_Ev what a frame comes to (the least that the steps close), pv_run a method by its depth. -/
abbrev PvG : Type := Nat × (Nat → Nat × Nat) × (Nat → Nat → Option Nat)
abbrev PvH : Type := Nat → Nat → Int32
abbrev PvP : Type := Option Value → PvG → PvH → Prop
abbrev PvL : Type := List (Option Value)
abbrev PvX : Type := Nat → PvL → List Value → Nat → Nat → PvG → PvH → Prop
abbrev PvC : Type := Nat → List Value → PvG → PvH → PvP → Prop
/-- the script's number -/
def pv_SC : Nat := 999999
def pv_tg (g : PvG) (o : Nat) : Nat × Nat := g.2.1 o
def pv_rf (g : PvG) (o k : Nat) : Option Nat := g.2.2 o k
def pv_st (h : PvH) (o k : Nat) (v : Int32) : PvH := fun a j => if a = o ∧ j = k then v else h a j
def pv_sr (g : PvG) (o k : Nat) (v : Option Nat) : PvG := (g.1, g.2.1, fun a j => if a = o ∧ j = k then v else g.2.2 a j)
def pv_cpy (h : PvH) (a0 a1 sp dp n : Nat) : PvH := fun a j => if a = a1 then va_cpy (h a0) (h a1) sp dp n j else h a j
def pv_newO (g : PvG) (t n : Nat) : PvG := (g.1 + 1, fun o => if o = g.1 then (t, n) else g.2.1 o, fun o k => if o = g.1 then none else g.2.2 o k)
def pv_newH (g : PvG) (h : PvH) : PvH := fun o k => if o = g.1 then 0 else h o k
/-- new int[n][k]: the outer one, then the rows -/
def pv_newM (g : PvG) (n k : Nat) : PvG := (g.1 + 1 + n, fun o => if o = g.1 then (103, n) else if g.1 < o ∧ o < g.1 + 1 + n then (100, k) else g.2.1 o, fun o j => if o = g.1 then (if j < n then some (g.1 + 1 + j) else none) else if g.1 < o ∧ o < g.1 + 1 + n then none else g.2.2 o j)
def pv_newMH (g : PvG) (h : PvH) (n : Nat) : PvH := fun o k => if g.1 ≤ o ∧ o < g.1 + 1 + n then 0 else h o k
def pv_ok (ls : PvL) (k : Nat) : Bool := match k with
  | 0 => true
  | j + 1 => match ls[j]? with
    | some (some v) => !(v.category == 2)
    | _ => true
def pv_i1 (st : List Value) (K : Int32 → List Value → Prop) : Prop := match st with
  | .int a :: r => K a r
  | _ => False
def pv_i2 (st : List Value) (K : Int32 → Int32 → List Value → Prop) : Prop := match st with
  | .int b :: .int a :: r => K a b r
  | _ => False
def pv_l1 (st : List Value) (K : Int64 → List Value → Prop) : Prop := match st with
  | .long a :: r => K a r
  | _ => False
def pv_l2 (st : List Value) (K : Int64 → Int64 → List Value → Prop) : Prop := match st with
  | .long b :: .long a :: r => K a b r
  | _ => False
def pv_li (st : List Value) (K : Int64 → Int32 → List Value → Prop) : Prop := match st with
  | .int b :: .long a :: r => K a b r
  | _ => False
def pv_r1 (st : List Value) (K : Nat → List Value → Prop) : Prop := match st with
  | .ref a :: r => K a r
  | _ => False
def pv_ri (st : List Value) (K : Nat → Int32 → List Value → Prop) : Prop := match st with
  | .int i :: .ref a :: r => K a i r
  | _ => False
def pv_rii (st : List Value) (K : Nat → Int32 → Int32 → List Value → Prop) : Prop := match st with
  | .int x :: .int i :: .ref a :: r => K a i x r
  | _ => False
def pv_rir (st : List Value) (K : Nat → Int32 → Nat → List Value → Prop) : Prop := match st with
  | .ref x :: .int i :: .ref a :: r => K a i x r
  | _ => False
def pv_v1 (st : List Value) (K : Value → List Value → Prop) : Prop := match st with
  | v :: r => K v r
  | _ => False
def pv_v2 (st : List Value) (K : Value → Value → List Value → Prop) : Prop := match st with
  | v :: w :: r => K v w r
  | _ => False
def pv_vr (st : List Value) (K : Value → Nat → List Value → Prop) : Prop := match st with
  | v :: .ref o :: r => K v o r
  | _ => False
def pv_ac (st : List Value) (K : Nat → Int32 → Nat → Int32 → Int32 → List Value → Prop) : Prop := match st with
  | .int n :: .int dp :: .ref a :: .int sp :: .ref a0 :: r => K a0 sp a dp n r
  | _ => False
def pv_li1 (ls : PvL) (k : Nat) (K : Int32 → Prop) : Prop := match ls[k]? with
  | some (some (.int x)) => K x
  | _ => False
def pv_ll1 (ls : PvL) (k : Nat) (K : Int64 → Prop) : Prop := match ls[k]? with
  | some (some (.long x)) => K x
  | _ => False
def pv_lr1 (ls : PvL) (k : Nat) (K : Nat → Prop) : Prop := match ls[k]? with
  | some (some (.ref x)) => K x
  | _ => False
def pv_go (pc : Nat) (off : Int) (K : Nat → Prop) : Prop := 0 ≤ (pc : Int) + off ∧ K ((pc : Int) + off).toNat
def pv_c0 (c : ClassFile.Cond) (x : Int32) : Prop := match c with
  | .eq => x = 0
  | .ne => ¬ x = 0
  | .lt => x < 0
  | .ge => 0 ≤ x
  | .gt => 0 < x
  | .le => x ≤ 0
def pv_c2 (c : ClassFile.Cond) (x y : Int32) : Prop := match c with
  | .eq => x = y
  | .ne => ¬ x = y
  | .lt => x < y
  | .ge => y ≤ x
  | .gt => y < x
  | .le => x ≤ y
def pv_cat (st : List Value) : Nat := (st.map fun v => v.category).sum
/-- a method called: the arguments off the stack, the answer on it -/
def pv_ca (call : PvC) (mc ms : Nat) (X : PvX) (pc : Nat) (ls : PvL) (cs ss : Nat) (g : PvG) (h : PvH) (y : Nat) (As rest : List Value) : Prop :=
  pv_cat rest ≤ 8 ∧ cs + pv_mc y ≤ mc ∧ ss + pv_ms y ≤ ms ∧ call y As g h (fun v g1 h1 => X (pc + 3) ls (v.toList ++ rest) (cs + pv_mc y) (ss + pv_ms y) g1 h1)
def pv_cv (call : PvC) (mc ms : Nat) (X : PvX) (pc : Nat) (ls : PvL) (st : List Value) (cs ss : Nat) (g : PvG) (h : PvH) (y : Nat) : Prop :=
  pv_np y ≤ st.length ∧ pv_r1 (st.drop (pv_np y)) fun o rest => (pv_tg g o).1 = pv_ow y ∧ pv_ca call mc ms X pc ls cs ss g h y (.ref o :: (st.take (pv_np y)).reverse) rest
def pv_ci (call : PvC) (mc ms : Nat) (X : PvX) (pc : Nat) (ls : PvL) (st : List Value) (cs ss : Nat) (g : PvG) (h : PvH) (y : Nat) : Prop :=
  pv_np y ≤ st.length ∧ pv_r1 (st.drop (pv_np y)) fun o rest => pv_ca call mc ms X pc ls cs ss g h y (.ref o :: (st.take (pv_np y)).reverse) rest
def pv_cs (call : PvC) (mc ms : Nat) (X : PvX) (pc : Nat) (ls : PvL) (st : List Value) (cs ss : Nat) (g : PvG) (h : PvH) (y : Nat) : Prop :=
  pv_np y ≤ st.length ∧ pv_ca call mc ms X pc ls cs ss g h y (st.take (pv_np y)).reverse (st.drop (pv_np y))
/-- what a frame is: the calls below it, its own class, a constructor, its answer's type, its room, what is owed at its end, the script -/
abbrev PvQ : Type := PvC × Nat × Bool × Option FieldType × Nat × Nat × PvP × Option (Nat × (Nat → Int32))
def pv_sem (q : PvQ) (X : PvX) (i : Instr) (n pc : Nat) (ls : PvL) (st : List Value) (cs ss : Nat) (g : PvG) (h : PvH) : Prop :=
  match i with
  | .iconst c => n = 1 ∧ X (pc + 1) ls (.int (Int32.ofInt c) :: st) cs ss g h
  | .bipush c => n = 2 ∧ X (pc + 2) ls (.int ((Int8.ofInt c).toInt32) :: st) cs ss g h
  | .sipush c => n = 3 ∧ X (pc + 3) ls (.int ((Int16.ofInt c).toInt32) :: st) cs ss g h
  | .lconst c => n = 1 ∧ X (pc + 1) ls (.long (Int64.ofNat (c : Nat)) :: st) cs ss g h
  | .iload_n k => n = 1 ∧ pv_li1 ls k fun x => X (pc + 1) ls (.int x :: st) cs ss g h
  | .iload k => n = 2 ∧ pv_li1 ls k fun x => X (pc + 2) ls (.int x :: st) cs ss g h
  | .lload_n k => n = 1 ∧ pv_ll1 ls k fun x => X (pc + 1) ls (.long x :: st) cs ss g h
  | .lload k => n = 2 ∧ pv_ll1 ls k fun x => X (pc + 2) ls (.long x :: st) cs ss g h
  | .aload_n k => n = 1 ∧ pv_lr1 ls k fun x => X (pc + 1) ls (.ref x :: st) cs ss g h
  | .aload k => n = 2 ∧ pv_lr1 ls k fun x => X (pc + 2) ls (.ref x :: st) cs ss g h
  | .istore_n k => n = 1 ∧ (k : Nat) < ls.length ∧ pv_ok ls k = true ∧ pv_i1 st fun x r => X (pc + 1) (ls.set k (some (.int x))) r cs ss g h
  | .istore k => n = 2 ∧ k < ls.length ∧ pv_ok ls k = true ∧ pv_i1 st fun x r => X (pc + 2) (ls.set k (some (.int x))) r cs ss g h
  | .lstore_n k => n = 1 ∧ (k : Nat) + 1 < ls.length ∧ pv_ok ls k = true ∧ pv_l1 st fun x r => X (pc + 1) ((ls.set k (some (.long x))).set (k + 1) none) r cs ss g h
  | .lstore k => n = 2 ∧ k + 1 < ls.length ∧ pv_ok ls k = true ∧ pv_l1 st fun x r => X (pc + 2) ((ls.set k (some (.long x))).set (k + 1) none) r cs ss g h
  | .astore_n k => n = 1 ∧ (k : Nat) < ls.length ∧ pv_ok ls k = true ∧ pv_r1 st fun x r => X (pc + 1) (ls.set k (some (.ref x))) r cs ss g h
  | .astore k => n = 2 ∧ k < ls.length ∧ pv_ok ls k = true ∧ pv_r1 st fun x r => X (pc + 2) (ls.set k (some (.ref x))) r cs ss g h
  | .iinc k c => n = 3 ∧ k < ls.length ∧ pv_ok ls k = true ∧ pv_li1 ls k fun x => X (pc + 3) (ls.set k (some (.int (x + Int32.ofInt c)))) st cs ss g h
  | .iadd => n = 1 ∧ pv_i2 st fun a b r => X (pc + 1) ls (.int (a + b) :: r) cs ss g h
  | .isub => n = 1 ∧ pv_i2 st fun a b r => X (pc + 1) ls (.int (a - b) :: r) cs ss g h
  | .imul => n = 1 ∧ pv_i2 st fun a b r => X (pc + 1) ls (.int (a * b) :: r) cs ss g h
  | .iand => n = 1 ∧ pv_i2 st fun a b r => X (pc + 1) ls (.int (a &&& b) :: r) cs ss g h
  | .ior => n = 1 ∧ pv_i2 st fun a b r => X (pc + 1) ls (.int (a ||| b) :: r) cs ss g h
  | .ixor => n = 1 ∧ pv_i2 st fun a b r => X (pc + 1) ls (.int (a ^^^ b) :: r) cs ss g h
  | .idiv => n = 1 ∧ pv_i2 st fun a b r => ¬ b = 0 ∧ X (pc + 1) ls (.int (a / b) :: r) cs ss g h
  | .irem => n = 1 ∧ pv_i2 st fun a b r => ¬ b = 0 ∧ X (pc + 1) ls (.int (a - a / b * b) :: r) cs ss g h
  | .ishl => n = 1 ∧ pv_i2 st fun a b r => X (pc + 1) ls (.int (a <<< (b &&& 31)) :: r) cs ss g h
  | .ishr => n = 1 ∧ pv_i2 st fun a b r => X (pc + 1) ls (.int (a >>> (b &&& 31)) :: r) cs ss g h
  | .iushr => n = 1 ∧ pv_i2 st fun a b r => X (pc + 1) ls (.int ((a.toUInt32 >>> (b.toUInt32 &&& Int32.toUInt32 31)).toInt32) :: r) cs ss g h
  | .ladd => n = 1 ∧ pv_l2 st fun a b r => X (pc + 1) ls (.long (a + b) :: r) cs ss g h
  | .lsub => n = 1 ∧ pv_l2 st fun a b r => X (pc + 1) ls (.long (a - b) :: r) cs ss g h
  | .lmul => n = 1 ∧ pv_l2 st fun a b r => X (pc + 1) ls (.long (a * b) :: r) cs ss g h
  | .land => n = 1 ∧ pv_l2 st fun a b r => X (pc + 1) ls (.long (a &&& b) :: r) cs ss g h
  | .lor => n = 1 ∧ pv_l2 st fun a b r => X (pc + 1) ls (.long (a ||| b) :: r) cs ss g h
  | .ldiv => n = 1 ∧ pv_l2 st fun a b r => ¬ b = 0 ∧ X (pc + 1) ls (.long (a / b) :: r) cs ss g h
  | .lrem => n = 1 ∧ pv_l2 st fun a b r => ¬ b = 0 ∧ X (pc + 1) ls (.long (a - a / b * b) :: r) cs ss g h
  | .lshl => n = 1 ∧ pv_li st fun a b r => X (pc + 1) ls (.long (a <<< (b.toInt64 &&& 63)) :: r) cs ss g h
  | .lshr => n = 1 ∧ pv_li st fun a b r => X (pc + 1) ls (.long (a >>> (b.toInt64 &&& 63)) :: r) cs ss g h
  | .lushr => n = 1 ∧ pv_li st fun a b r => X (pc + 1) ls (.long ((a.toUInt64 >>> (b.toInt64.toUInt64 &&& Int64.toUInt64 63)).toInt64) :: r) cs ss g h
  | .lcmp => n = 1 ∧ pv_l2 st fun a b r => X (pc + 1) ls (.int (lg_cmp a b) :: r) cs ss g h
  | .i2l => n = 1 ∧ pv_i1 st fun a r => X (pc + 1) ls (.long a.toInt64 :: r) cs ss g h
  | .l2i => n = 1 ∧ pv_l1 st fun a r => X (pc + 1) ls (.int a.toInt32 :: r) cs ss g h
  | .dup => n = 1 ∧ pv_v1 st fun v r => v.category = 1 ∧ X (pc + 1) ls (v :: v :: r) cs ss g h
  | .dup2 => n = 1 ∧ pv_v2 st fun v w r => v.category = 1 ∧ w.category = 1 ∧ X (pc + 1) ls (v :: w :: v :: w :: r) cs ss g h
  | .ldc k => n = 2 ∧ match pv_kc q.2.1 k with
    | some e => X (pc + 2) ls (.int e.2.2.1 :: st) cs ss g h
    | none => False
  | .ldc_w k => n = 3 ∧ match pv_kc q.2.1 k with
    | some e => X (pc + 3) ls (.int e.2.2.1 :: st) cs ss g h
    | none => False
  | .ldc2_w k => n = 3 ∧ match pv_kl q.2.1 k with
    | some e => X (pc + 3) ls (.long e.2.2.1 :: st) cs ss g h
    | none => False
  | .ifCond c off => n = 3 ∧ pv_i1 st fun x r => pv_go pc off fun t => (pv_c0 c x → X t ls r cs ss g h) ∧ (¬ pv_c0 c x → X (pc + 3) ls r cs ss g h)
  | .if_icmp c off => n = 3 ∧ pv_i2 st fun x y r => pv_go pc off fun t => (pv_c2 c x y → X t ls r cs ss g h) ∧ (¬ pv_c2 c x y → X (pc + 3) ls r cs ss g h)
  | .goto off => n = 3 ∧ pv_go pc off fun t => X t ls st cs ss g h
  | .tableswitch d lo hi offs => pv_i1 st fun x r => (x.toInt < lo ∨ hi < x.toInt → pv_go pc d fun t => X t ls r cs ss g h) ∧ (∀ k : Nat, x.toInt = lo + k → x.toInt ≤ hi → match offs[k]? with
    | some off => pv_go pc off fun t => X t ls r cs ss g h
    | none => False)
  | .getfield k => n = 3 ∧ match pv_fl q.2.1 k with
    | some e => pv_r1 st fun o r => (pv_tg g o).1 = e.2.2.1 ∧ X (pc + 3) ls ((if pv_K e.2.2.1 e.2.2.2.1 = 2 then va_rf (pv_rf g o e.2.2.2.1) else .int (h o e.2.2.2.1)) :: r) cs ss g h
    | none => False
  | .putfield k => n = 3 ∧ match pv_fl q.2.1 k with
    | some e => (pv_Fi e.2.2.1 e.2.2.2.1 = true → q.2.2.1 = true ∧ e.2.2.1 = q.2.1) ∧ pv_vr st fun v o r => (pv_tg g o).1 = e.2.2.1 ∧ match v with
      | .int x => (pv_K e.2.2.1 e.2.2.2.1 = 0 ∨ pv_K e.2.2.1 e.2.2.2.1 = 1 ∧ (x = 0 ∨ x = 1)) ∧ X (pc + 3) ls r cs ss g (pv_st h o e.2.2.2.1 x)
      | .ref x => pv_K e.2.2.1 e.2.2.2.1 = 2 ∧ X (pc + 3) ls r cs ss (pv_sr g o e.2.2.2.1 (some x)) h
      | _ => False
    | none => False
  | .iaload => n = 1 ∧ pv_ri st fun a i r => match q.2.2.2.2.2.2.2 with
    | some s => a = pv_SC ∧ vp_in i s.1 ∧ X (pc + 1) ls (.int (s.2 i.toNatClampNeg) :: r) cs ss g h
    | none => (pv_tg g a).1 = 100 ∧ vp_in i (pv_tg g a).2 ∧ X (pc + 1) ls (.int (h a i.toNatClampNeg) :: r) cs ss g h
  | .iastore => n = 1 ∧ pv_rii st fun a i x r => (pv_tg g a).1 = 100 ∧ vp_in i (pv_tg g a).2 ∧ X (pc + 1) ls r cs ss g (pv_st h a i.toNatClampNeg x)
  | .baload => n = 1 ∧ pv_ri st fun a i r => (pv_tg g a).1 = 101 ∧ vp_in i (pv_tg g a).2 ∧ X (pc + 1) ls (.int (h a i.toNatClampNeg) :: r) cs ss g h
  | .bastore => n = 1 ∧ pv_rii st fun a i x r => (pv_tg g a).1 = 101 ∧ vp_in i (pv_tg g a).2 ∧ (x = 0 ∨ x = 1) ∧ X (pc + 1) ls r cs ss g (pv_st h a i.toNatClampNeg x)
  | .aaload => n = 1 ∧ pv_ri st fun a i r => ((pv_tg g a).1 = 102 ∨ (pv_tg g a).1 = 103) ∧ vp_in i (pv_tg g a).2 ∧ X (pc + 1) ls (va_rf (pv_rf g a i.toNatClampNeg) :: r) cs ss g h
  | .aastore => n = 1 ∧ pv_rir st fun a i x r => (pv_tg g a).1 = 102 ∧ (pv_tg g x).1 = 6 ∧ vp_in i (pv_tg g a).2 ∧ X (pc + 1) ls r cs ss (pv_sr g a i.toNatClampNeg (some x)) h
  | .arraylength => n = 1 ∧ pv_r1 st fun a r => match q.2.2.2.2.2.2.2 with
    | some s => a = pv_SC ∧ X (pc + 1) ls (.int (Int32.ofNat s.1) :: r) cs ss g h
    | none => (pv_tg g a).1 = 100 ∧ X (pc + 1) ls (.int (Int32.ofNat (pv_tg g a).2) :: r) cs ss g h
  | .new k => n = 3 ∧ match pv_nw q.2.1 k with
    | some e => g.1 < 1000 ∧ cs + 1 ≤ q.2.2.2.2.1 ∧ ss + pv_N e.2.2.1 ≤ q.2.2.2.2.2.1 ∧ X (pc + 3) ls (.ref g.1 :: st) (cs + 1) (ss + pv_N e.2.2.1) (pv_newO g e.2.2.1 0) (pv_newH g h)
    | none => False
  | .newarray t => n = 2 ∧ pv_i1 st fun c r => g.1 < 1000 ∧ ¬ c < 0 ∧ c.toNatClampNeg ≤ 1000 ∧ cs + 1 ≤ q.2.2.2.2.1 ∧ ss + c.toNatClampNeg ≤ q.2.2.2.2.2.1 ∧ (match t with
    | .int => X (pc + 2) ls (.ref g.1 :: r) (cs + 1) (ss + c.toNatClampNeg) (pv_newO g 100 c.toNatClampNeg) (pv_newH g h)
    | .boolean => X (pc + 2) ls (.ref g.1 :: r) (cs + 1) (ss + c.toNatClampNeg) (pv_newO g 101 c.toNatClampNeg) (pv_newH g h)
    | _ => False)
  | .anewarray k => n = 3 ∧ q.2.1 = 0 ∧ k = 9 ∧ pv_i1 st fun c r => g.1 < 1000 ∧ ¬ c < 0 ∧ c.toNatClampNeg ≤ 1000 ∧ cs + 1 ≤ q.2.2.2.2.1 ∧ ss + c.toNatClampNeg ≤ q.2.2.2.2.2.1 ∧ X (pc + 3) ls (.ref g.1 :: r) (cs + 1) (ss + c.toNatClampNeg) (pv_newO g 102 c.toNatClampNeg) (pv_newH g h)
  | .multianewarray k d => n = 4 ∧ q.2.1 = 3 ∧ k = 21 ∧ d = 2 ∧ pv_i2 st fun a b r => g.1 + 1 + a.toNatClampNeg < 1000 ∧ ¬ a < 0 ∧ ¬ b < 0 ∧ b.toNatClampNeg ≤ 1000 ∧ cs + (1 + a.toNatClampNeg) ≤ q.2.2.2.2.1 ∧ ss + (a.toNatClampNeg + a.toNatClampNeg * b.toNatClampNeg) ≤ q.2.2.2.2.2.1 ∧
      X (pc + 4) ls (.ref g.1 :: r) (cs + (1 + a.toNatClampNeg)) (ss + (a.toNatClampNeg + a.toNatClampNeg * b.toNatClampNeg)) (pv_newM g a.toNatClampNeg b.toNatClampNeg) (pv_newMH g h a.toNatClampNeg)
  | .invokevirtual k => n = 3 ∧ match pv_ml q.2.1 k with
    | some e => e.2.2.1 = 0 ∧ pv_cv q.1 q.2.2.2.2.1 q.2.2.2.2.2.1 X pc ls st cs ss g h e.2.2.2.1
    | none => False
  | .invokespecial k => n = 3 ∧ match pv_ml q.2.1 k with
    | some e => (e.2.2.1 = 6 ∧ pv_r1 st fun _ r => pv_cat r ≤ 8 ∧ X (pc + 3) ls r cs ss g h) ∨ (e.2.2.1 = 5 ∧ pv_ci q.1 q.2.2.2.2.1 q.2.2.2.2.2.1 X pc ls st cs ss g h e.2.2.2.1)
    | none => False
  | .invokestatic k => n = 3 ∧ match pv_ml q.2.1 k with
    | some e => (e.2.2.1 = 8 ∧ pv_i2 st fun x y r => pv_cat r ≤ 8 ∧ X (pc + 3) ls (.int (if x < y then y else x) :: r) cs ss g h) ∨
      (e.2.2.1 = 7 ∧ pv_ac st fun a0 sp a dp c r => pv_cat r ≤ 8 ∧ (pv_tg g a0).1 = 100 ∧ (pv_tg g a).1 = 100 ∧ ¬ sp < 0 ∧ ¬ dp < 0 ∧ ¬ c < 0 ∧ sp.toNatClampNeg + c.toNatClampNeg ≤ (pv_tg g a0).2 ∧ dp.toNatClampNeg + c.toNatClampNeg ≤ (pv_tg g a).2 ∧
        X (pc + 3) ls r cs ss g (pv_cpy h a0 a sp.toNatClampNeg dp.toNatClampNeg c.toNatClampNeg)) ∨
      ((e.2.2.1 = 2 ∨ e.2.2.1 = 3 ∨ e.2.2.1 = 4) ∧ pv_cs q.1 q.2.2.2.2.1 q.2.2.2.2.2.1 X pc ls st cs ss g h e.2.2.2.1)
    | none => False
  | .ireturn => n = 1 ∧ pv_i1 st fun x r => r = [] ∧ cs = q.2.2.2.2.1 ∧ ss = q.2.2.2.2.2.1 ∧ (q.2.2.2.1 = some .int ∨ q.2.2.2.1 = some .boolean ∧ (x = 0 ∨ x = 1)) ∧ q.2.2.2.2.2.2.1 (some (.int x)) g h
  | .lreturn => n = 1 ∧ pv_l1 st fun x r => r = [] ∧ cs = q.2.2.2.2.1 ∧ ss = q.2.2.2.2.2.1 ∧ q.2.2.2.1 = some .long ∧ q.2.2.2.2.2.2.1 (some (.long x)) g h
  | .return_ => n = 1 ∧ st = [] ∧ cs = q.2.2.2.2.1 ∧ ss = q.2.2.2.2.2.1 ∧ q.2.2.2.1 = none ∧ q.2.2.2.2.2.2.1 none g h
  | _ => False
def pv_stp (q : PvQ) (b : ByteArray) (X : PvX) : PvX := fun pc ls st cs ss g h => match decode b pc with
  | .ok (i, n) => pv_sem q X i n pc ls st cs ss g h
  | .error _ => False
def pv_Ev (q : PvQ) (b : ByteArray) : PvX := fun pc ls st cs ss g h => ∀ X : PvX, (∀ pc ls st cs ss g h, pv_stp q b X pc ls st cs ss g h → X pc ls st cs ss g h) → X pc ls st cs ss g h
/-- the locals at a method's entry -/
def pv_sl (vs : List Value) : PvL := vs.flatMap fun v => if v.category = 2 then [some v, none] else [some v]
def pv_ent (n : Nat) (vs : List Value) : PvL := pv_sl vs ++ List.replicate (n - (pv_sl vs).length) none
def pv_run : Nat → PvC
  | 0 => fun _ _ _ _ _ => False
  | d + 1 => fun y As g h P => y < 166 ∧ (pv_sl As).length ≤ pv_mL y ∧ pv_Ev (pv_run d, pv_ow y, pv_in y, pv_rt y, pv_mc y, pv_ms y, P, none) (pv_cd y) 0 (pv_ent (pv_mL y) As) [] 0 0 g h
