/-! SOUND: what the small machine does, the machine does -/
def pv_AOA (U : State) : Prop := (Cond.arrayOver (.array .int)).before #[] U = true
theorem pv_AOA.moved {u U : State} (hvm : u.vm.Alike U.vm) (h : pv_AOA u) : pv_AOA U := by
  obtain ⟨comp, c, k, h1, h2, h3, h4, h5⟩ := arrayOverA_spec h
  obtain ⟨k', hk', he⟩ := hvm.2.2 _ _ h3
  have hi : (U.vm.classes.findIdx? fun (x : Class) => match x.kind with | .array component _ => component == comp | _ => false) = some c := by
    have hb : U.vm.bare = u.vm.bare := by first | exact hvm.bare_eq | exact hvm.bare_eq.symm
    refine (va_idx_bare U.vm comp).symm.trans ?_
    rw [hb]
    exact (va_idx_bare u.vm comp).trans h2
  have hkind : k'.kind = .array comp (.array .int) := by rw [he]; exact h4
  have f1 : U.vm.findClass (FieldType.array .int).toString = some comp := by rw [hvm.findClass]; exact h1
  have f2 : U.vm.findClass ("[" ++ (FieldType.array .int).toString) = some c := by rw [hvm.findClass]; exact h5
  unfold pv_AOA Cond.before Cond.holds
  simp only [Cond.value]
  rw [f1, Option.bind_some]
  refine (congrArg (fun o : Option Nat => (o.bind (fun c => (U.vm.classes[c]?).map fun (k : Class) => match k.kind with | .array _ ty => decide (ty = FieldType.array .int) && decide (U.vm.findClass ("[" ++ (FieldType.array .int).toString) = some c) | _ => false) == some true)) hi).trans ?_
  simp [hk', hkind, f2]
def pv_Nz (U : State) : Prop := ∀ e ∈ pv_Ml, e.2.2.1 = 3 → va_Nw (.methodLinkNest (pv_Rn e.1) e.2.1 (pv_nm e.2.2.2.1) "SinkingArchive") U
def pv_Kx (D : va_G) (dA : Nat → ClassId) (U : State) : Prop := va_K D vwCl (pv_tys dA) U ∧ va_AO RX6 U ∧ pv_AOA U ∧ pv_Nz U
theorem pv_Kx.warm {D : va_G} {dA : Nat → ClassId} {s U : State} (hW : s.WarmedH U.vm) (h : pv_Kx D dA s) : pv_Kx D dA U := ⟨va_K.moved hW.alike h.1, va_AO.moved hW.alike h.2.1, h.2.2.1.moved hW.alike, fun e he hk => va_Nw.warmM hW (h.2.2.2 e he hk)⟩
theorem pv_Kx.same {D : va_G} {dA : Nat → ClassId} {u U : State} (hv : u.vm = U.vm) (h : pv_Kx D dA u) : pv_Kx D dA U := by
  have ha : u.vm.Alike U.vm := hv ▸ Vm.Alike.refl u.vm
  exact ⟨va_K.moved ha h.1, va_AO.moved ha h.2.1, h.2.2.1.moved ha, fun e he hk => va_Nw.same rfl hv (h.2.2.2 e he hk)⟩
def pv_Pc (D : va_G) (dA : Nat → ClassId) (bs sb : Nat) (As : List Value) (g : PvG) (h : PvH) : Array Value → State → Prop := va_Pc (As.map (pv_va bs sb)) (fun U => pv_Hp D dA bs sb g h U.heap ∧ U.heap.size = bs + g.1 ∧ pv_Kx D dA U)
def pv_Qc (D : va_G) (dA : Nat → ClassId) (bs sb : Nat) (P : PvP) (n : Nat) : Array Value → State → Outcome → State → Prop := fun _ st oc t => ∃ v g h, oc = .returned (v.map (pv_va bs sb)) ∧ P v g h ∧ pv_Hp D dA bs sb g h t.heap ∧ g.1 = n ∧ st.heap.size ≤ t.heap.size ∧ ∀ q, q < bs → t.heap[q]? = st.heap[q]?
def pv_wd (y : Nat) : List Cond := .code (pv_nm y) (pv_cd y) (pv_mL y) (pv_rt y) :: pv_WL
/-- a method's contract, for calls of this kind -/
def pv_Ct (l : Launch) (D : va_G) (dA : Nat → ClassId) (bs sb : Nat) (R : Room) (call : PvC) : Prop := ∀ y As g h P, call y As g h P → y < 166 ∧ ∃ rm : Room, Met l (pv_nm y) (pv_wd y) rm (pv_Pc D dA bs sb As g h) (pv_Qc D dA bs sb P (g.1 + pv_mc y)) (pv_mc y) (pv_ms y) (fun q => bs ≤ q) ∧ rm.cells = pv_mc y ∧ rm.slots = pv_ms y ∧ rm.frames + 1 ≤ R.frames ∧ 8 + (pv_mL y + 11) + rm.locals ≤ R.locals
theorem pv_blind (D : va_G) (dA : Nat → ClassId) (bs sb : Nat) (As : List Value) (g : PvG) (h : PvH) : FrameBlind (pv_Pc D dA bs sb As g h) := fun a U gg mk q => ⟨q.1, q.2.1, q.2.2.1, pv_Kx.same rfl q.2.2.2⟩
theorem pv_WLgood : GoodIn pv_WL pv_WL := fun w h => ⟨h, good_of_word (pv_WL_good w h)⟩
theorem pv_wdIn {y : Nat} (h : y < 166) : GoodIn pv_WL (pv_wd y) := fun w hw => by
  rcases List.mem_cons.mp hw with rfl | hw
  · have := pv_okC y (by omega) (by omega)
    exact pv_WLgood _ this
  · exact pv_WLgood w hw
section SD
variable {p : Program} {l : Launch} {e : Env} {R : Room} {s : State} {m : MethodId} {args : Array Value} {below : List Frame} {meth : Method} {c : Code} {H : Heap} {locs : List Loc} {cells slots : Nat} {Q : State → Prop}
theorem pv_size {g : JFrame} (k : H.size ≤ s.heap.size + cells → W p l e R s m args below meth c H locs cells slots Q g) : W p l e R s m args below meth c H locs cells slots Q g := by
  intro T hT X
  have hz := X.heapSize
  rw [hT] at hz
  exact k hz T hT X
theorem pv_call_go {mc ms pc : Nat} {ls : Array Slot} {st0 rest : List Value} {Qa : State → Outcome → State → Prop} {free : Addr → Prop} (hr : va_Run p l e R s m args below meth c H locs cells slots mc ms (F0 m pc ls st0) rest Qa free)
    (kk : ∀ (v : Option Value) (st₀ t : State) (L : List Loc), st₀.heap = H → Qa st₀ (.returned v) t → (∀ q ∈ L, free q.base) → W p l e R s m args below meth c t.heap (locs ++ L) (cells + mc) (slots + ms) Q (F0 m (pc + 3) ls (v.toList ++ rest))) : W p l e R s m args below meth c H locs cells slots Q (F0 m pc ls st0) := by
  intro T hT X
  obtain ⟨v, st₀, t, T', L, h0, X', hL, e1, e2, hq, st⟩ := hr T hT X
  obtain ⟨t2, a1, b1⟩ := kk v st₀ t L h0 hq hL T' e1 X'
  exact ⟨t2, st t2 a1, b1⟩
end SD
