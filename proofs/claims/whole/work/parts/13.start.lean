/-! THE CLAIM OUT OF ONE WALK OF THE LAW'S BODY. Your part is whole_start (and what it stands on); all else here is the same for every law, but numbers. -/
def R_law : String := "SinkingArchiveLaw"
def lw_P (b : Addr) (xs : List Int32) (args : Array Value) (s : State) : Prop := args = #[.ref b] ∧ s.IntsAt b xs ∧ xs.length ≤ 2560 ∧ (Jvm.Cond.and given_1 narrow_1).before args s = true
def lw_Q (_ : Array Value) (s : State) (o : Outcome) (t : State) : Prop := o = .returned (some (.int 1)) ∧ Framed s o t [] 600000 7302250
def lw_Z (below : List Frame) (a : Array Value) (s : State) : State → Prop := fun t => ∃ o, t.status = .running ∧ Ended t below o ∧ lw_Q a s o t
/-- the law's own end, with 1 on the stack, nothing written that was there before, its room as the claim has it -/
theorem lw_ret {p : Program} {l : Launch} {e : Env} {s : State} {m : MethodId} {below : List Frame} {meth : Method} {c : Code} {b : Nat} (hx : p.tables.exec = Jvm.exec) (hb : c.code = code) (hr : meth.sig.returnType = ret) (hlocks : meth.locks = false) {pc : Nat} {H : Heap} {ls : Array Slot} (hdg : decode code pc = .ok (.ireturn, 1)) : W p l e room_1 s m #[Value.ref b] below meth c H [] 600000 7302250 (lw_Z below #[Value.ref b] s) (F0 m pc ls [.int 1]) := by
  intro T hT X
  obtain ⟨fs, hret, hrun, hended, hW, hframe⟩ := X.leave (v := some (.int 1)) (hlocks := hlocks) (fun h => by rw [hr] at h; cases h)
  have hmeth' : T.vm.method? m = some meth := X.method'
  refine ⟨T.setFrames fs, ?_, .returned (some (.int 1)), hrun, hended, rfl, ⟨_, rfl⟩, hW, hframe⟩
  jvm_step X.here [X.here.top, hx, hb, hdg, hmeth', hr, ret, narrow_b1]
  (try refine ⟨rfl, ?_⟩); (try refine ⟨rfl, ?_⟩)
  first | (intro acts; rw [hret _ acts rfl rfl rfl]) | rw [hret _ _ rfl rfl rfl]
  exact Steps.refl _
/-- what holds at the law's entry: the machine, the code, the tables' words (any of lw_tbl by 'hts w (by decide +kernel)'), the script of L ints xs at the cell b, what the Statement gives of the start (any of its parts by flat_of_before) -/
def lw_At (p : Program) (s : State) (m : MethodId) (meth : Method) (c : Code) (b L : Nat) (xs : Nat → Int32) : Prop :=
  p.tables.exec = Jvm.exec ∧ c.code = code ∧ meth.sig.returnType = ret ∧ c.maxLocals = 4 ∧ s.vm.findClass R_law = some m.cls ∧ (∀ w ∈ lw_tbl, w.before #[Value.ref b] s = true) ∧ va_X b L xs s s.heap ∧ b < s.heap.size ∧ meth.locks = false ∧ (Jvm.Cond.and given_1 narrow_1).before #[Value.ref b] s = true
/-! THE LAW OUT OF THE SMALL MACHINE: what is left is pv_LawOK -/
/-- the law, on the small machine: from an empty world and a script of L ints, it comes to 1 -/
def pv_LawOK : Prop := ∀ (L : Nat) (xs : Nat → Int32), L ≤ 2560 → pv_Ev (pv_run 60, 11, false, some .boolean, 127, 1724, (fun v _ _ => v = some (.int 1)), some (L, xs)) code 0 [some (.ref pv_SC), none, none, none] [] 0 0 (0, fun _ => (999, 0), fun _ _ => none) (fun _ _ => 0)
theorem pv_arrK {s : State} {A : Array Value} {ty : FieldType} (h : (Cond.arrayClass ty).before A s = true) : ∃ cA : ClassId, ArrOfT s cA ty ∧ s.vm.findClass ("[" ++ ty.toString) = some cA := by
  obtain ⟨cA, kA, comp, h1, h2, h3⟩ := Cond.arrayClass_spec h
  exact ⟨cA, fun n z => ⟨fun k q => (by cases q), kA, h2, comp, h3⟩, h1⟩
set_option maxHeartbeats 4000000 in
theorem pv_whole (hlaw : pv_LawOK) {p : Program} {e : Env} {s : State} {m : MethodId} {below : List Frame} {meth : Method} {c : Code} (l : Launch) {b L : Nat} {xs : Nat → Int32} (hL : L ≤ 2560) (C0 : lw_At p s m meth c b L xs) : W p l e room_1 s m #[Value.ref b] below meth c s.heap [] 0 0 (lw_Z below #[Value.ref b] s) (entryFrame m ([Value.ref b] : List Value).toArray 4) := by
  obtain ⟨hx, hb, hr, hml, hown, hts0, hX, hbl, hlocks, hgv⟩ := id C0
  have hts : ∀ w ∈ pv_WL, w.before #[Value.ref b] s = true := fun w hw => hts0 w (pv_WL_in w hw)
  have hi : ∀ ci, ci < 11 → ∃ (cC : ClassId) (iS : Nat → Nat), u_Kn s (pv_Rn ci) (pv_T ci) (pv_N ci) cC iS := fun ci hc => by
    have hw : Cond.instantiable (pv_Rn ci) (pv_N ci) ∈ pv_WL := by
      obtain ⟨E, hE, h6⟩ : ∃ E ∈ pv_Nw, E.2.2.1 = ci := by
        revert ci
        decide +kernel
      obtain ⟨a1, a2, a3⟩ := pv_okN E hE
      have := pv_zip a1 a2 (.instantiable (pv_Rn E.2.2.1) (pv_N E.2.2.1)) (by simp [pv_wN])
      rw [h6] at this
      exact this
    exact u_known hts (pv_uIn ci hc) (hts _ hw)
  have hi2 : ∀ ci, ∃ q : ClassId × (Nat → Nat), ci < 11 → u_Kn s (pv_Rn ci) (pv_T ci) (pv_N ci) q.1 q.2 := fun ci => by
    by_cases hc : ci < 11
    · obtain ⟨a, b, h⟩ := hi ci hc
      exact ⟨(a, b), fun _ => h⟩
    · exact ⟨(0, fun _ => 0), fun h => absurd h hc⟩
  obtain ⟨f, hf⟩ := Classical.axiomOfChoice hi2
  obtain ⟨cI, aI, nI1⟩ := pv_arrK (hts _ pv_wI)
  obtain ⟨cZ, aZ, nZ1⟩ := pv_arrK (hts _ pv_wZ)
  have hAO : va_AO RX6 s := va_AO.of (hts0 (.arrayOver (.object RX6)) (List.mem_of_getElem? (i := 247) (by decide +kernel)))
  have hAA : pv_AOA s := hts0 (.arrayOver (.array .int)) (List.mem_of_getElem? (i := 313) (by decide +kernel))
  obtain ⟨compS, cS, kS, s1, s2, s3, s4, s5⟩ := Cond.arrayOver_spec hAO
  obtain ⟨compJ, cJ, kJ, j1, j2, j3, j4, j5⟩ := arrayOverA_spec hAA
  have hK : pv_Kx (fun k => (f k).1, fun k => (f k).2) (fun k => if k = 0 then cI else if k = 1 then cZ else if k = 2 then cS else cJ) s := by
    refine ⟨⟨fun k q hq => ?_, fun k q hq => ?_⟩, hAO, hAA, fun E hE hk => ?_⟩
    · have hk : k < 11 := (List.getElem?_eq_some_iff.mp hq).1
      rw [pv_cl k hk] at hq
      cases hq
      exact hf k hk
    · match k, hq with
      | 0, hq => cases hq; exact ⟨aI, nI1⟩
      | 1, hq => cases hq; exact ⟨aZ, nZ1⟩
      | 2, hq => cases hq; exact ⟨fun n z => ⟨fun k q => (by cases q), kS, s3, compS, s4⟩, kS, compS, s3, s4, s1, s5⟩
      | 3, hq => cases hq; exact ⟨fun n z => ⟨fun k q => (by cases q), kJ, j3, compJ, j4⟩, j5⟩
      | k + 4, hq => cases hq
    · obtain ⟨hm1, -, -, -⟩ := pv_okM E hE
      have hz : some (Cond.methodLinkNest (pv_Rn E.1) E.2.1 (pv_nm E.2.2.2.1) "SinkingArchive") ∈ E.2.2.2.2.map (fun i => lw_tbl[i]?) := by
        rw [hm1]
        simp [pv_wM, hk]
      obtain ⟨i, -, hi3⟩ := List.mem_map.mp hz
      exact va_Nw.of rfl (hts0 _ (List.mem_of_getElem? hi3))
  have hcall : pv_Ct l (fun k => (f k).1, fun k => (f k).2) (fun k => if k = 0 then cI else if k = 1 then cZ else if k = 2 then cS else cJ) s.heap.size b room_1 (pv_run 60) := fun y As g h P k => by
    obtain ⟨hy, hM⟩ := pv_sound l _ _ s.heap.size b 60 y As g h P k
    have := pv_okL y (by omega)
    exact ⟨hy, pv_rm 60 y, hM, rfl, rfl, Nat.le_of_ble_eq_true rfl, by show 8 + (pv_mL y + 11) + (60 * 60 + 100) ≤ 84000; omega⟩
  have F := pv_sound_f (Q := lw_Z below #[Value.ref b] s) (below := below) (l := l) (e := e) (R := room_1) (n0 := 0) hx hb hml hown hts hK rfl (fun z => by cases z) (Nat.le_of_ble_eq_true rfl) (Nat.le_of_ble_eq_true rfl) (Nat.le_of_ble_eq_true rfl) (Nat.le_of_ble_eq_true rfl) hcall
    (sc := some (L, xs)) (fun z hz => by cases hz; exact ⟨hX, hbl⟩)
    (fun x g1 h1 H locs lsA pc hd hrt hP1 hn1 hH1 hS1 => by
      cases hP1
      exact va_forget (fun q hq => hS1.2.2 q hq) (W.widen (k := 600000) (n := 7302250) (Nat.le_of_ble_eq_true rfl) (Nat.le_of_ble_eq_true rfl) (lw_ret hx hb hr hlocks hd)))
    (fun x g1 h1 H locs lsA pc hd hrt hP1 => by cases hrt)
    (fun g1 h1 H locs lsA pc hd hrt hP1 => by cases hrt) (hlaw L xs hL)
  have e1 : pv_va s.heap.size b (.ref pv_SC) = .ref b := congrArg Value.ref (if_pos rfl)
  have hlv := pv_LR_ent (bs := s.heap.size) (sb := b) (n := 4) (vs := [.ref pv_SC]) (Nat.le_of_ble_eq_true rfl)
  rw [List.map_cons, e1] at hlv
  have F := F rfl (Nat.zero_le _) (Nat.zero_le _) s.heap [] _ ⟨Nat.zero_le _, fun _ _ => rfl, fun k q hq => by cases hq⟩ va_S.rf hlv
  rw [lg_entry_eq]
  exact F
