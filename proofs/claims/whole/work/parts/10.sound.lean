/-! SOUND: one instruction, then a frame, then a method of any depth -/
section SE
variable {p : Program} {l : Launch} {e : Env} {R : Room} {s : State} {m : MethodId} {args : Array Value} {below : List Frame} {meth : Method} {c : Code} {Q : State → Prop}
variable {D : va_G} {dA : Nat → ClassId} {bs sb nL n0 : Nat}
/-- what the machine does from here on, for every heap that holds the small world -/
def pv_XM (p : Program) (l : Launch) (e : Env) (R : Room) (s : State) (m : MethodId) (args : Array Value) (below : List Frame) (meth : Method) (c : Code) (Q : State → Prop) (D : va_G) (dA : Nat → ClassId) (bs sb nL n0 mc ms : Nat) : PvX := fun pc ls st cs ss g h =>
  g.1 = n0 + cs → cs ≤ mc → ss ≤ ms → ∀ (H : Heap) (locs : List Loc) (lsA : Array Slot), pv_Hp D dA bs sb g h H → va_S (fun q => bs ≤ q) s.heap H locs → pv_LR bs sb nL ls lsA → W p l e R s m args below meth c H locs cs ss Q (F0 m pc lsA (st.map (pv_va bs sb)))
theorem pv_Hsz {g : PvG} {h : PvH} {H : Heap} (hH : pv_Hp D dA bs sb g h H) (h1 : bs ≤ H.size) (h2 : H.size ≤ bs + g.1) : H.size = bs + g.1 := by
  rcases Nat.eq_zero_or_pos g.1 with z | z
  · omega
  · have := (hH.2.2 (g.1 - 1) _ (pv_ws_at dA bs sb g h (by omega))).lt
    have : bs + (g.1 - 1) < H.size := this
    omega
theorem pv_nar {ci k : Nat} {x : Int32} (hc : ci < 11) (hk : k < pv_N ci) (h : pv_K ci k = 0 ∨ pv_K ci k = 1 ∧ (x = 0 ∨ x = 1)) : narrow (pv_ty ci k) (.int x) = .int x ∧ fits (pv_ty ci k) (.int x) = true := by
  have a := (pv_okK ci hc k hk).1
  generalize pv_ty ci k = t at a ⊢
  rcases h with h | ⟨h, rfl | rfl⟩ <;> rw [h] at a <;> cases t <;> first | exact ⟨rfl, rfl⟩ | cases a
theorem pv_narR {ci k x : Nat} (hc : ci < 11) (hk : k < pv_N ci) (h : pv_K ci k = 2) : narrow (pv_ty ci k) (.ref x) = .ref x ∧ fits (pv_ty ci k) (.ref x) = true := by
  have a := (pv_okK ci hc k hk).1
  generalize pv_ty ci k = t at a ⊢
  rw [h] at a
  cases t <;> first | exact ⟨rfl, rfl⟩ | cases a
/-- a field written, final or not -/
theorem pv_put (hx : p.tables.exec = Jvm.exec) {b : ByteArray} (hb : c.code = b) {own : Nat} {ini : Bool} (hown : s.vm.findClass (pv_Rn own) = some m.cls) (hts : ∀ w ∈ pv_WL, w.before args s = true) (hK : pv_Kx D dA s) (hin : ini = true → meth.name = "<init>")
    {g : PvG} {h : PvH} {H : Heap} {locs : List Loc} {cs ss pc k : Nat} {lsA : Array Slot} {r : List Value} {E : Nat × Nat × Nat × Nat × Nat} (hE : pv_fl own k = some E) (hf : pv_Fi E.2.2.1 E.2.2.2.1 = true → ini = true ∧ E.2.2.1 = own) {o : Nat} (ht : (pv_tg g o).1 = E.2.2.1) {v : Value}
    (hn : narrow (pv_ty E.2.2.1 E.2.2.2.1) v = v) (hfi : fits (pv_ty E.2.2.1 E.2.2.2.1) v = true) (hd : decode b pc = .ok (.putfield k, 3)) (hH : pv_Hp D dA bs sb g h H) (hS : va_S (fun q => bs ≤ q) s.heap H locs)
    (kk : ∀ (H1 : Heap) (locs1 : List Loc), va_P D vwCl ((pv_ws dA bs sb g h).set o (bs + o, .inr (E.2.2.1, ((List.range (pv_N E.2.2.1)).map (fun k => pv_fv bs sb E.2.2.1 g h o k)).set E.2.2.2.1 v))) H1 → va_S (fun q => bs ≤ q) s.heap H1 locs1 → W p l e R s m args below meth c H1 locs1 cs ss Q (F0 m (pc + 3) lsA r)) :
    W p l e R s m args below meth c H locs cs ss Q (F0 m pc lsA (v :: .ref (pv_ad bs sb o) :: r)) := by
  obtain ⟨w1, w2, w3, w4⟩ := pv_fl_ok hE
  obtain ⟨lo, la⟩ := pv_Hp_lt hH (o := o) (by rw [ht]; omega)
  have he := pv_ws_at dA bs sb g h lo
  rw [pv_en_obj dA bs sb ht w2] at he
  rw [la]
  have hd2 := pv_tyOk E.2.2.1 w2 E.2.2.2.1 w3
  have hfin := (pv_okK E.2.2.1 w2 E.2.2.2.1 w3).2
  cases hq : pv_Fi E.2.2.1 E.2.2.2.1 with
  | false => exact va_put hx hb hts (pv_uIn _ w2) (pv_ty E.2.2.1) (pv_tyOk _ w2) (pv_nmOk _ w2) hown hK.1 hH.2.2 (pv_wsD dA bs sb g h) hS o he (pv_cl _ w2) E.2.2.2.1 w3 (hts _ w1) (by rw [w4]; exact fun x z => z) (hfin.trans hq) hd2 hn hfi (by simpa using w3) hd (fun H1 locs1 a1 _ a3 => kk H1 locs1 a1 a3)
  | true =>
    obtain ⟨q1, q2⟩ := hf hq
    exact va_putF hx hb hts (pv_uIn _ w2) (pv_ty E.2.2.1) (pv_tyOk _ w2) (pv_nmOk _ w2) hown hK.1 hH.2.2 (pv_wsD dA bs sb g h) hS o he (pv_cl _ w2) E.2.2.2.1 w3 (hts _ w1) (by rw [w4]; exact fun x z => z) (hfin.trans hq) (hin q1) (by rw [w4, q2]) hd2 hn hfi (by simpa using w3) hd (fun H1 locs1 a1 _ a3 => kk H1 locs1 a1 a3)
theorem pv_join {ls : List Loc} {L : List Loc} {H H1 : Heap} (hS : va_S (fun q => bs ≤ q) s.heap H ls) (hbs : bs ≤ s.heap.size) (h1 : H.size ≤ H1.size) (h2 : ∀ q, q < bs → H1[q]? = H[q]?) (h3 : ∀ q ∈ L, bs ≤ q.base) : va_S (fun q => bs ≤ q) s.heap H1 (ls ++ L) := by
  refine ⟨Nat.le_trans hS.1 h1, fun q a b => ?_, fun q hq => ?_⟩
  · have : q < bs := Nat.not_le.mp b
    rw [h2 q this]
    exact hS.2.1 q a b
  · rcases List.mem_append.mp hq with z | z
    · exact hS.2.2 q z
    · exact h3 q z
/-- a call comes back -/
theorem pv_back {mc ms : Nat} {X : PvX} (hX : X = pv_XM p l e R s m args below meth c Q D dA bs sb nL n0 mc ms) (hz : s.heap.size = bs + n0) {pc : Nat} {ls : PvL} {st : List Value} {cs ss : Nat} {g : PvG} {H : Heap} {locs : List Loc} {lsA : Array Slot} {y : Nat} {rest : List Value}
    (hg : g.1 = n0 + cs) (hc1 : cs + pv_mc y ≤ mc) (hc2 : ss + pv_ms y ≤ ms) (hS : va_S (fun q => bs ≤ q) s.heap H locs) (hL : pv_LR bs sb nL ls lsA) {a : Array Value}
    (hr : va_Run p l e R s m args below meth c H locs cs ss (pv_mc y) (pv_ms y) (F0 m pc lsA st) (rest.map (pv_va bs sb)) (pv_Qc D dA bs sb (fun v g1 h1 => X (pc + 3) ls (v.toList ++ rest) (cs + pv_mc y) (ss + pv_ms y) g1 h1) (g.1 + pv_mc y) a) (fun q => bs ≤ q)) :
    W p l e R s m args below meth c H locs cs ss Q (F0 m pc lsA st) := by
  refine pv_call_go hr fun v st₀ t L e0 hq hL1 => ?_
  obtain ⟨v1, g1, h1, ev, k, hH1, hn1, hz1, hk1⟩ := hq
  cases ev
  rw [e0] at hz1 hk1
  have hb0 : bs ≤ s.heap.size := by omega
  rw [hX] at k
  have := k (by omega) hc1 hc2 t.heap (locs ++ L) lsA hH1 (pv_join hS hb0 hz1 hk1 hL1) hL
  cases v1 <;> exact this
theorem pv_newA {g : PvG} {h : PvH} {H1 : Heap} {q : Nat} {E : va_E} (hP1 : va_P D vwCl (pv_ws dA bs sb g h ++ [(q, E)]) H1) (hD1 : va_D (fun q => bs ≤ q) (pv_ws dA bs sb g h ++ [(q, E)])) (hz : H1.size ≤ bs + g.1 + 1) : q = bs + g.1 := by
  have hg : (pv_ws dA bs sb g h ++ [(q, E)])[g.1]? = some (q, E) := by
    rw [List.getElem?_append_right (by rw [pv_ws_len]; omega), pv_ws_len, Nat.sub_self]
    rfl
  have h1 : q < H1.size := (hP1 g.1 _ hg).lt
  have h2 : bs ≤ q := hD1.2 g.1 _ hg
  rcases Nat.lt_or_ge q (bs + g.1) with z | z
  · have ho : (pv_ws dA bs sb g h ++ [(q, E)])[q - bs]? = some (bs + (q - bs), pv_en dA bs sb g h (q - bs)) := by
      rw [List.getElem?_append_left (by rw [pv_ws_len]; omega)]
      exact pv_ws_at dA bs sb g h (by omega)
    have := hD1.1 _ _ _ _ ho hg (show bs + (q - bs) = q by omega)
    omega
  · omega
theorem pv_Hp_push {g : PvG} {h : PvH} {H H1 : Heap} {t n : Nat} {E : va_E} (hH : pv_Hp D dA bs sb g h H) (hg : g.1 < 1000) (he : pv_en dA bs sb (pv_newO g t n) (pv_newH g h) g.1 = E) (hP : va_P D vwCl (pv_ws dA bs sb g h ++ [(bs + g.1, E)]) H1) : pv_Hp D dA bs sb (pv_newO g t n) (pv_newH g h) H1 := by
  refine ⟨?_, fun o ho => ?_, ?_⟩
  · show g.1 + 1 ≤ 1000
    omega
  · have ho : g.1 + 1 ≤ o := ho
    have e : pv_tg (pv_newO g t n) o = pv_tg g o := if_neg (by omega)
    rw [e]
    exact hH.2.1 o (by omega)
  · rw [← pv_ws_push (g := g) (h := h) dA bs sb (g' := pv_newO g t n) (h' := pv_newH g h) rfl he (fun a ha => pv_en_congr dA bs sb (if_neg (by omega)) (fun _ => if_neg (by omega)) (funext fun _ => if_neg (by omega)))]
    exact hP
theorem pv_new0 {g : PvG} {h : PvH} {t n : Nat} : pv_tg (pv_newO g t n) g.1 = (t, n) ∧ (∀ k, pv_rf (pv_newO g t n) g.1 k = none) ∧ pv_newH g h g.1 = fun _ => 0 := ⟨if_pos rfl, fun _ => if_pos rfl, funext fun _ => if_pos rfl⟩
theorem pv_inner (c : ClassId) (M : Nat) : Jvm.Free.Multi.innerC c M (defaultValue .int) = vp_cell c (M, .inl (fun _ => 0)) := by
  show ({ cls := c, slots := Array.replicate M (.int 0), vm := .none } : Cell) = _
  rw [arrV_new]
  rfl
theorem pv_argsR {st : List Value} {n : Nat} (hn : n ≤ st.length) : (st.take n).reverse.reverse ++ st.drop n = st := by rw [List.reverse_reverse, List.take_append_drop]
set_option maxHeartbeats 8000000 in
theorem pv_sound_i {call : PvC} {own : Nat} {ini : Bool} {rt : Option FieldType} {mc ms : Nat} {P : PvP} {sc : Option (Nat × (Nat → Int32))} {b : ByteArray}
    (hx : p.tables.exec = Jvm.exec) (hb : c.code = b) (hml : c.maxLocals = nL) (hown : s.vm.findClass (pv_Rn own) = some m.cls) (hts : ∀ w ∈ pv_WL, w.before args s = true) (hK : pv_Kx D dA s) (hz : s.heap.size = bs + n0) (hin : ini = true → meth.name = "<init>") (hR1 : 1 ≤ R.frames) (hR2 : 100 ≤ R.locals) (hRc : mc ≤ R.cells) (hRs : ms ≤ R.slots)
    (hcall : pv_Ct l D dA bs sb R call) (hsc : ∀ z, sc = some z → va_X sb z.1 z.2 s s.heap ∧ sb < bs)
    (hri : ∀ (x : Int32) (g : PvG) (h : PvH) (H : Heap) (locs : List Loc) (lsA : Array Slot) (pc : Nat), decode b pc = .ok (.ireturn, 1) → (rt = some .int ∨ rt = some .boolean ∧ (x = 0 ∨ x = 1)) → P (some (.int x)) g h → g.1 = n0 + mc → pv_Hp D dA bs sb g h H → va_S (fun q => bs ≤ q) s.heap H locs → W p l e R s m args below meth c H locs mc ms Q (F0 m pc lsA [.int x]))
    (hrl : ∀ (x : Int64) (g : PvG) (h : PvH) (H : Heap) (locs : List Loc) (lsA : Array Slot) (pc : Nat), decode b pc = .ok (.lreturn, 1) → rt = some .long → P (some (.long x)) g h → g.1 = n0 + mc → pv_Hp D dA bs sb g h H → va_S (fun q => bs ≤ q) s.heap H locs → W p l e R s m args below meth c H locs mc ms Q (F0 m pc lsA [.long x]))
    (hrv : ∀ (g : PvG) (h : PvH) (H : Heap) (locs : List Loc) (lsA : Array Slot) (pc : Nat), decode b pc = .ok (.return_, 1) → rt = none → P none g h → g.1 = n0 + mc → pv_Hp D dA bs sb g h H → va_S (fun q => bs ≤ q) s.heap H locs → W p l e R s m args below meth c H locs mc ms Q (F0 m pc lsA []))
    {X : PvX} (hX : X = pv_XM p l e R s m args below meth c Q D dA bs sb nL n0 mc ms) {i : Instr} {n pc : Nat} {ls : PvL} {st : List Value} {cs ss : Nat} {g : PvG} {h : PvH} (hd : decode b pc = .ok (i, n)) (h0 : pv_sem (call, own, ini, rt, mc, ms, P, sc) X i n pc ls st cs ss g h) :
    pv_XM p l e R s m args below meth c Q D dA bs sb nL n0 mc ms pc ls st cs ss g h := by
  intro hg hcs hss H locs lsA hH hS hL
  have hA : ∀ q : Nat, s.heap.size ≤ q → bs ≤ q := fun q h => by omega
  have hD := pv_wsD dA bs sb g h
  cases i <;> simp only [pv_sem] at h0
  case iconst => obtain ⟨rfl, k⟩ := h0; rw [hX] at k; exact lv_iconst hx hb hd rfl (k hg hcs hss H locs lsA hH hS hL)
  case bipush => obtain ⟨rfl, k⟩ := h0; rw [hX] at k; exact lv_bipush hx hb hd rfl (k hg hcs hss H locs lsA hH hS hL)
  case sipush => obtain ⟨rfl, k⟩ := h0; rw [hX] at k; exact lv_sipush hx hb hd rfl (k hg hcs hss H locs lsA hH hS hL)
  case lconst => obtain ⟨rfl, k⟩ := h0; rw [hX] at k; exact lv_lconst hx hb hd rfl (k hg hcs hss H locs lsA hH hS hL)
  case iload_n => obtain ⟨rfl, k⟩ := h0; obtain ⟨x, hx1, k⟩ := pv_li1_e k; rw [hX] at k; exact lv_iload_n hx hb hd rfl (pv_LR_at hL hx1) (k hg hcs hss H locs lsA hH hS hL)
  case iload => obtain ⟨rfl, k⟩ := h0; obtain ⟨x, hx1, k⟩ := pv_li1_e k; rw [hX] at k; exact lv_iload hx hb hd (pv_LR_at hL hx1) (k hg hcs hss H locs lsA hH hS hL)
  case lload_n => obtain ⟨rfl, k⟩ := h0; obtain ⟨x, hx1, k⟩ := pv_ll1_e k; rw [hX] at k; exact lv_lload_n hx hb hd rfl (pv_LR_at hL hx1) (k hg hcs hss H locs lsA hH hS hL)
  case lload => obtain ⟨rfl, k⟩ := h0; obtain ⟨x, hx1, k⟩ := pv_ll1_e k; rw [hX] at k; exact lv_lload hx hb hd (pv_LR_at hL hx1) (k hg hcs hss H locs lsA hH hS hL)
  case aload_n => obtain ⟨rfl, k⟩ := h0; obtain ⟨x, hx1, k⟩ := pv_lr1_e k; rw [hX] at k; exact lv_aload_n hx hb hd rfl (pv_LR_at hL hx1) (k hg hcs hss H locs lsA hH hS hL)
  case aload => obtain ⟨rfl, k⟩ := h0; obtain ⟨x, hx1, k⟩ := pv_lr1_e k; rw [hX] at k; exact lv_aload hx hb hd (pv_LR_at hL hx1) (k hg hcs hss H locs lsA hH hS hL)
  case istore_n j => obtain ⟨rfl, k1, k2, k⟩ := h0; obtain ⟨x, r, rfl, kz⟩ := pv_i1_e k; have k := kz; clear kz; rw [hX] at k; exact lv_istore_n hx hb hd rfl hL.2 (by rw [← hL.1]; exact k1) rfl (fun ls' h' => k hg hcs hss H locs ls' hH hS (pv_LR_set k1 k2 hL.1 h'))
  case istore j => obtain ⟨rfl, k1, k2, k⟩ := h0; obtain ⟨x, r, rfl, kz⟩ := pv_i1_e k; have k := kz; clear kz; rw [hX] at k; exact lv_istore hx hb hd hL.2 (by rw [← hL.1]; exact k1) rfl (fun ls' h' => k hg hcs hss H locs ls' hH hS (pv_LR_set k1 k2 hL.1 h'))
  case lstore_n j => obtain ⟨rfl, k1, k2, k⟩ := h0; obtain ⟨x, r, rfl, kz⟩ := pv_l1_e k; have k := kz; clear kz; rw [hX] at k; exact lv_lstore_n hx hb hd rfl hL.2 (by rw [← hL.1]; exact k1) rfl (fun ls' h' => k hg hcs hss H locs ls' hH hS (pv_LR_set2 k1 k2 hL.1 h'))
  case lstore j => obtain ⟨rfl, k1, k2, k⟩ := h0; obtain ⟨x, r, rfl, kz⟩ := pv_l1_e k; have k := kz; clear kz; rw [hX] at k; exact lv_lstore hx hb hd hL.2 (by rw [← hL.1]; exact k1) rfl (fun ls' h' => k hg hcs hss H locs ls' hH hS (pv_LR_set2 k1 k2 hL.1 h'))
  case astore_n j => obtain ⟨rfl, k1, k2, k⟩ := h0; obtain ⟨x, r, rfl, kz⟩ := pv_r1_e k; have k := kz; clear kz; rw [hX] at k; exact lv_astore_n hx hb hd rfl hL.2 (by rw [← hL.1]; exact k1) rfl (fun ls' h' => k hg hcs hss H locs ls' hH hS (pv_LR_set (v := .ref x) k1 k2 hL.1 h'))
  case astore j => obtain ⟨rfl, k1, k2, k⟩ := h0; obtain ⟨x, r, rfl, kz⟩ := pv_r1_e k; have k := kz; clear kz; rw [hX] at k; exact lv_astore hx hb hd hL.2 (by rw [← hL.1]; exact k1) rfl (fun ls' h' => k hg hcs hss H locs ls' hH hS (pv_LR_set (v := .ref x) k1 k2 hL.1 h'))
  case iinc j v =>
    obtain ⟨rfl, k1, k2, k⟩ := h0; obtain ⟨x, hx1, k⟩ := pv_li1_e k; rw [hX] at k
    obtain ⟨z, hz1⟩ := List.mem_iff_getElem?.mp (pv_lv_mem (bs := bs) (sb := sb) hx1)
    exact lv_iinc hx hb hd hL.2 hz1 rfl (by rw [← hL.1]; exact k1) rfl (fun ls' h' => k hg hcs hss H locs ls' hH hS (pv_LR_set (v := .int _) k1 k2 hL.1 h'))
  case iadd => obtain ⟨rfl, k⟩ := h0; obtain ⟨x, y, r, rfl, kz⟩ := pv_i2_e k; have k := kz; clear kz; rw [hX] at k; exact lv_iadd hx hb hd (k hg hcs hss H locs lsA hH hS hL)
  case isub => obtain ⟨rfl, k⟩ := h0; obtain ⟨x, y, r, rfl, kz⟩ := pv_i2_e k; have k := kz; clear kz; rw [hX] at k; exact lv_isub hx hb hd (k hg hcs hss H locs lsA hH hS hL)
  case imul => obtain ⟨rfl, k⟩ := h0; obtain ⟨x, y, r, rfl, kz⟩ := pv_i2_e k; have k := kz; clear kz; rw [hX] at k; exact lv_imul hx hb hd (k hg hcs hss H locs lsA hH hS hL)
  case iand => obtain ⟨rfl, k⟩ := h0; obtain ⟨x, y, r, rfl, kz⟩ := pv_i2_e k; have k := kz; clear kz; rw [hX] at k; exact lv_iand hx hb hd (k hg hcs hss H locs lsA hH hS hL)
  case ior => obtain ⟨rfl, k⟩ := h0; obtain ⟨x, y, r, rfl, kz⟩ := pv_i2_e k; have k := kz; clear kz; rw [hX] at k; exact lv_ior hx hb hd (k hg hcs hss H locs lsA hH hS hL)
  case ixor => obtain ⟨rfl, k⟩ := h0; obtain ⟨x, y, r, rfl, kz⟩ := pv_i2_e k; have k := kz; clear kz; rw [hX] at k; exact lv_ixor hx hb hd (k hg hcs hss H locs lsA hH hS hL)
  case idiv => obtain ⟨rfl, k⟩ := h0; obtain ⟨x, y, r, rfl, k0, kz⟩ := pv_i2_e k; have k := kz; clear kz; rw [hX] at k; exact lv_idiv hx hb hd k0 (k hg hcs hss H locs lsA hH hS hL)
  case irem => obtain ⟨rfl, k⟩ := h0; obtain ⟨x, y, r, rfl, k0, kz⟩ := pv_i2_e k; have k := kz; clear kz; rw [hX] at k; exact lv_irem hx hb hd k0 (k hg hcs hss H locs lsA hH hS hL)
  case ishl => obtain ⟨rfl, k⟩ := h0; obtain ⟨x, y, r, rfl, kz⟩ := pv_i2_e k; have k := kz; clear kz; rw [hX] at k; exact lv_ishl hx hb hd (k hg hcs hss H locs lsA hH hS hL)
  case ishr => obtain ⟨rfl, k⟩ := h0; obtain ⟨x, y, r, rfl, kz⟩ := pv_i2_e k; have k := kz; clear kz; rw [hX] at k; exact lv_ishr hx hb hd (k hg hcs hss H locs lsA hH hS hL)
  case iushr => obtain ⟨rfl, k⟩ := h0; obtain ⟨x, y, r, rfl, kz⟩ := pv_i2_e k; have k := kz; clear kz; rw [hX] at k; exact lv_iushr hx hb hd rfl (k hg hcs hss H locs lsA hH hS hL)
  case ladd => obtain ⟨rfl, k⟩ := h0; obtain ⟨x, y, r, rfl, kz⟩ := pv_l2_e k; have k := kz; clear kz; rw [hX] at k; exact lv_ladd hx hb hd (k hg hcs hss H locs lsA hH hS hL)
  case lsub => obtain ⟨rfl, k⟩ := h0; obtain ⟨x, y, r, rfl, kz⟩ := pv_l2_e k; have k := kz; clear kz; rw [hX] at k; exact lv_lsub hx hb hd (k hg hcs hss H locs lsA hH hS hL)
  case lmul => obtain ⟨rfl, k⟩ := h0; obtain ⟨x, y, r, rfl, kz⟩ := pv_l2_e k; have k := kz; clear kz; rw [hX] at k; exact lv_lmul hx hb hd (k hg hcs hss H locs lsA hH hS hL)
  case land => obtain ⟨rfl, k⟩ := h0; obtain ⟨x, y, r, rfl, kz⟩ := pv_l2_e k; have k := kz; clear kz; rw [hX] at k; exact lv_land hx hb hd (k hg hcs hss H locs lsA hH hS hL)
  case lor => obtain ⟨rfl, k⟩ := h0; obtain ⟨x, y, r, rfl, kz⟩ := pv_l2_e k; have k := kz; clear kz; rw [hX] at k; exact lv_lor hx hb hd (k hg hcs hss H locs lsA hH hS hL)
  case ldiv => obtain ⟨rfl, k⟩ := h0; obtain ⟨x, y, r, rfl, k0, kz⟩ := pv_l2_e k; have k := kz; clear kz; rw [hX] at k; exact lv_ldiv hx hb hd k0 (k hg hcs hss H locs lsA hH hS hL)
  case lrem => obtain ⟨rfl, k⟩ := h0; obtain ⟨x, y, r, rfl, k0, kz⟩ := pv_l2_e k; have k := kz; clear kz; rw [hX] at k; exact lv_lrem hx hb hd k0 (k hg hcs hss H locs lsA hH hS hL)
  case lshl => obtain ⟨rfl, k⟩ := h0; obtain ⟨x, y, r, rfl, kz⟩ := pv_li_e k; have k := kz; clear kz; rw [hX] at k; exact lv_lshl hx hb hd rfl (k hg hcs hss H locs lsA hH hS hL)
  case lshr => obtain ⟨rfl, k⟩ := h0; obtain ⟨x, y, r, rfl, kz⟩ := pv_li_e k; have k := kz; clear kz; rw [hX] at k; exact lv_lshr hx hb hd rfl (k hg hcs hss H locs lsA hH hS hL)
  case lushr => obtain ⟨rfl, k⟩ := h0; obtain ⟨x, y, r, rfl, kz⟩ := pv_li_e k; have k := kz; clear kz; rw [hX] at k; exact lv_lushr hx hb hd rfl (k hg hcs hss H locs lsA hH hS hL)
  case lcmp => obtain ⟨rfl, k⟩ := h0; obtain ⟨x, y, r, rfl, kz⟩ := pv_l2_e k; have k := kz; clear kz; rw [hX] at k; exact W.lcmp hx hb hd (k hg hcs hss H locs lsA hH hS hL)
  case i2l => obtain ⟨rfl, k⟩ := h0; obtain ⟨x, r, rfl, kz⟩ := pv_i1_e k; have k := kz; clear kz; rw [hX] at k; exact lv_i2l hx hb hd rfl (k hg hcs hss H locs lsA hH hS hL)
  case l2i => obtain ⟨rfl, k⟩ := h0; obtain ⟨x, r, rfl, kz⟩ := pv_l1_e k; have k := kz; clear kz; rw [hX] at k; exact lv_l2i hx hb hd rfl (k hg hcs hss H locs lsA hH hS hL)
  case dup => obtain ⟨rfl, k⟩ := h0; obtain ⟨v, r, rfl, k0, kz⟩ := pv_v1_e k; have k := kz; clear kz; rw [hX] at k; exact lv_dup hx hb hd (by rw [pv_va_cat]; exact k0) (k hg hcs hss H locs lsA hH hS hL)
  case dup2 => obtain ⟨rfl, k⟩ := h0; obtain ⟨v, w, r, rfl, k0, k1, kz⟩ := pv_v2_e k; have k := kz; clear kz; rw [hX] at k; exact lv_dup2_11 hx hb hd (by rw [pv_va_cat]; exact k0) (by rw [pv_va_cat]; exact k1) (k hg hcs hss H locs lsA hH hS hL)
  case ldc j =>
    obtain ⟨rfl, k⟩ := h0
    cases hq : pv_kc own j with
    | none => rw [hq] at k; exact k.elim
    | some E => rw [hq, hX] at k; exact lv_ldc hx hb hown (hts _ (pv_kc_ok hq)) hd (k hg hcs hss H locs lsA hH hS hL)
  case ldc_w j =>
    obtain ⟨rfl, k⟩ := h0
    cases hq : pv_kc own j with
    | none => rw [hq] at k; exact k.elim
    | some E => rw [hq, hX] at k; exact lv_ldcw hx hb hown (hts _ (pv_kc_ok hq)) hd (k hg hcs hss H locs lsA hH hS hL)
  case ldc2_w j =>
    obtain ⟨rfl, k⟩ := h0
    cases hq : pv_kl own j with
    | none => rw [hq] at k; exact k.elim
    | some E => rw [hq, hX] at k; exact lv_ldc2 hx hb hown (hts _ (pv_kl_ok hq)) hd (k hg hcs hss H locs lsA hH hS hL)
  case ifCond cc off =>
    obtain ⟨rfl, k⟩ := h0; obtain ⟨x, r, rfl, kz⟩ := pv_i1_e k; have k := kz; clear kz; obtain ⟨t, ht, k1, k2⟩ := pv_go_e k; rw [hX] at k1 k2
    cases cc
    · exact lv_if_eq hx hb hd ht (fun z => k1 z hg hcs hss H locs lsA hH hS hL) (fun z => k2 z hg hcs hss H locs lsA hH hS hL)
    · exact lv_if_ne hx hb hd ht (fun z => k1 z hg hcs hss H locs lsA hH hS hL) (fun z => k2 (fun q => q z) hg hcs hss H locs lsA hH hS hL)
    · exact lv_if_lt hx hb hd ht (fun z => k1 z hg hcs hss H locs lsA hH hS hL) (fun z => k2 z hg hcs hss H locs lsA hH hS hL)
    · exact lv_if_ge hx hb hd ht (fun z => k1 z hg hcs hss H locs lsA hH hS hL) (fun z => k2 z hg hcs hss H locs lsA hH hS hL)
    · exact lv_if_gt hx hb hd ht (fun z => k1 z hg hcs hss H locs lsA hH hS hL) (fun z => k2 z hg hcs hss H locs lsA hH hS hL)
    · exact lv_if_le hx hb hd ht (fun z => k1 z hg hcs hss H locs lsA hH hS hL) (fun z => k2 z hg hcs hss H locs lsA hH hS hL)
  case if_icmp cc off =>
    obtain ⟨rfl, k⟩ := h0; obtain ⟨x, y, r, rfl, kz⟩ := pv_i2_e k; have k := kz; clear kz; obtain ⟨t, ht, k1, k2⟩ := pv_go_e k; rw [hX] at k1 k2
    cases cc
    · exact lv_icmp_eq hx hb hd ht (fun z => k1 z hg hcs hss H locs lsA hH hS hL) (fun z => k2 z hg hcs hss H locs lsA hH hS hL)
    · exact lv_icmp_ne hx hb hd ht (fun z => k1 z hg hcs hss H locs lsA hH hS hL) (fun z => k2 (fun q => q z) hg hcs hss H locs lsA hH hS hL)
    · exact lv_icmp_lt hx hb hd ht (fun z => k1 z hg hcs hss H locs lsA hH hS hL) (fun z => k2 z hg hcs hss H locs lsA hH hS hL)
    · exact lv_icmp_ge hx hb hd ht (fun z => k1 z hg hcs hss H locs lsA hH hS hL) (fun z => k2 z hg hcs hss H locs lsA hH hS hL)
    · exact lv_icmp_gt hx hb hd ht (fun z => k1 z hg hcs hss H locs lsA hH hS hL) (fun z => k2 z hg hcs hss H locs lsA hH hS hL)
    · exact lv_icmp_le hx hb hd ht (fun z => k1 z hg hcs hss H locs lsA hH hS hL) (fun z => k2 z hg hcs hss H locs lsA hH hS hL)
  case goto => obtain ⟨rfl, k⟩ := h0; obtain ⟨t, ht, k⟩ := pv_go_e k; rw [hX] at k; exact lv_goto hx hb hd ht (k hg hcs hss H locs lsA hH hS hL)
  case tableswitch dd lo hi offs =>
    obtain ⟨x, r, rfl, k1, k2⟩ := pv_i1_e h0
    by_cases hq : x.toInt < lo ∨ hi < x.toInt
    · obtain ⟨t, ht, k⟩ := pv_go_e (k1 hq); rw [hX] at k
      exact lv_tableOut hx hb hd hq ht (k hg hcs hss H locs lsA hH hS hL)
    · have q1 : ¬ x.toInt < lo := fun z => hq (Or.inl z)
      have q2 : ¬ hi < x.toInt := fun z => hq (Or.inr z)
      have k := k2 (x.toInt - lo).toNat (by omega) (by omega)
      cases ho : offs[(x.toInt - lo).toNat]? with
      | none => rw [ho] at k; exact k.elim
      | some off =>
        rw [ho] at k
        obtain ⟨t, ht, k⟩ := pv_go_e k; rw [hX] at k
        exact lv_tableIn hx hb hd q1 q2 ho ht (k hg hcs hss H locs lsA hH hS hL)
  case getfield j =>
    obtain ⟨rfl, k⟩ := h0
    cases hq : pv_fl own j with
    | none => rw [hq] at k; exact k.elim
    | some E =>
      rw [hq] at k
      obtain ⟨o, r, rfl, ht, kz⟩ := pv_r1_e k; have k := kz; clear kz; rw [hX] at k
      obtain ⟨w1, w2, w3, w4⟩ := pv_fl_ok hq
      obtain ⟨lo, la⟩ := pv_Hp_lt hH (o := o) (by rw [ht]; omega)
      have he := pv_ws_at dA bs sb g h lo
      rw [pv_en_obj dA bs sb ht w2] at he
      have k' := k hg hcs hss H locs lsA hH hS hL
      have ev : pv_va bs sb (if pv_K E.2.2.1 E.2.2.2.1 = 2 then va_rf (pv_rf g o E.2.2.2.1) else .int (h o E.2.2.2.1)) = pv_fv bs sb E.2.2.1 g h o E.2.2.2.1 := by
        unfold pv_fv
        split
        · exact pv_va_rf bs sb _
        · rfl
      rw [List.map_cons, ev] at k'
      show W p l e R s m args below meth c H locs cs ss Q (F0 m pc lsA (.ref (pv_ad bs sb o) :: _))
      rw [la]
      exact va_get hx hb hts (pv_uIn _ w2) hown hK.1 hH.2.2 o he (pv_cl _ w2) E.2.2.2.1 w3 (hts _ w1) (by rw [w4]; exact fun x z => z) (pv_fv_at bs sb w3) hd k'
  case putfield j =>
    obtain ⟨rfl, k⟩ := h0
    cases hq : pv_fl own j with
    | none => rw [hq] at k; exact k.elim
    | some E =>
      rw [hq] at k
      obtain ⟨hf, k⟩ := k
      obtain ⟨v, o, r, rfl, ht, kz⟩ := pv_vr_e k; have k := kz; clear kz
      obtain ⟨w1, w2, w3, w4⟩ := pv_fl_ok hq
      cases v with
      | int x =>
        obtain ⟨k0, k⟩ := k; rw [hX] at k
        obtain ⟨n1, n2⟩ := pv_nar w2 w3 k0
        have hk2 : pv_K E.2.2.1 E.2.2.2.1 ≠ 2 := by rcases k0 with z | z <;> omega
        exact pv_put hx hb hown hts hK hin hq hf ht n1 n2 hd hH hS (fun H1 locs1 a1 a3 => k hg hcs hss H1 locs1 lsA (pv_Hp_set (g' := g) (h' := pv_st h o E.2.2.2.1 x) hH rfl (fun _ => rfl) (pv_en_putI dA bs sb ht w2 hk2) (fun a ha => pv_en_congr dA bs sb rfl (fun _ => rfl) (pv_st_ne h _ _ ha)) a1) a3 hL)
      | ref x =>
        obtain ⟨k0, k⟩ := k; rw [hX] at k
        obtain ⟨n1, n2⟩ := pv_narR (x := pv_ad bs sb x) w2 w3 k0
        exact pv_put hx hb hown hts hK hin hq hf ht n1 n2 hd hH hS (fun H1 locs1 a1 a3 => k hg hcs hss H1 locs1 lsA (pv_Hp_set (g' := pv_sr g o E.2.2.2.1 (some x)) (h' := h) hH rfl (fun _ => rfl) (pv_en_putR dA bs sb ht w2 k0) (fun a ha => pv_en_congr dA bs sb rfl (fun _ => pv_sr_ne g _ _ ha _) rfl) a1) a3 hL)
      | _ => exact k.elim
  case iaload =>
    obtain ⟨rfl, k⟩ := h0; obtain ⟨a, i, r, rfl, kz⟩ := pv_ri_e k; have k := kz; clear kz
    cases hs : sc with
    | some z =>
      rw [hs] at k
      obtain ⟨ha, k0, k9⟩ := k; rw [hX] at k9
      subst ha
      obtain ⟨z1, z2⟩ := hsc z hs
      have e1 : pv_ad bs sb pv_SC = sb := if_pos rfl
      show W p l e R s m args below meth c H locs cs ss Q (F0 m pc lsA (.int i :: .ref (pv_ad bs sb pv_SC) :: _))
      rw [e1]
      exact va_sld hx hb z1 (by omega) (Nat.not_le.mpr z2) hS k0 hd (k9 hg hcs hss H locs lsA hH hS hL)
    | none =>
      rw [hs] at k
      obtain ⟨ht, k0, k⟩ := k; rw [hX] at k
      obtain ⟨lo, la⟩ := pv_Hp_lt hH (o := a) (by rw [ht]; omega)
      have he := pv_ws_at dA bs sb g h lo
      rw [pv_en_arr dA bs sb ht (by omega) (by omega)] at he
      show W p l e R s m args below meth c H locs cs ss Q (F0 m pc lsA (.int i :: .ref (pv_ad bs sb a) :: _))
      rw [la]
      exact va_iald hx hb hK.1 hH.2.2 a 0 he rfl k0 hd (k hg hcs hss H locs lsA hH hS hL)
  case iastore =>
    obtain ⟨rfl, k⟩ := h0; obtain ⟨a, i, x, r, rfl, ht, k0, kz⟩ := pv_rii_e k; have k := kz; clear kz; rw [hX] at k
    obtain ⟨lo, la⟩ := pv_Hp_lt hH (o := a) (by rw [ht]; omega)
    have he := pv_ws_at dA bs sb g h lo
    rw [pv_en_arr dA bs sb ht (by omega) (by omega)] at he
    show W p l e R s m args below meth c H locs cs ss Q (F0 m pc lsA (.int x :: .int i :: .ref (pv_ad bs sb a) :: _))
    rw [la]
    exact va_iast hx hb hK.1 hH.2.2 hD hS a 0 he rfl k0 hd (fun H1 locs1 a1 _ a3 => k hg hcs hss H1 locs1 lsA (pv_Hp_set (g' := g) (h' := pv_st h a i.toNatClampNeg x) hH rfl (fun _ => rfl) (by rw [pv_en_arr dA bs sb ht (by omega) (by omega), pv_st_at]) (fun q hq => pv_en_congr dA bs sb rfl (fun _ => rfl) (pv_st_ne h _ _ hq)) a1) a3 hL)
  case baload =>
    obtain ⟨rfl, k⟩ := h0; obtain ⟨a, i, r, rfl, ht, k0, kz⟩ := pv_ri_e k; have k := kz; clear kz; rw [hX] at k
    obtain ⟨lo, la⟩ := pv_Hp_lt hH (o := a) (by rw [ht]; omega)
    have he := pv_ws_at dA bs sb g h lo
    rw [pv_en_arr dA bs sb ht (by omega) (by omega)] at he
    show W p l e R s m args below meth c H locs cs ss Q (F0 m pc lsA (.int i :: .ref (pv_ad bs sb a) :: _))
    rw [la]
    exact va_zald hx hb hK.1 hH.2.2 a 1 he rfl k0 hd (k hg hcs hss H locs lsA hH hS hL)
  case bastore =>
    obtain ⟨rfl, k⟩ := h0; obtain ⟨a, i, x, r, rfl, ht, k0, k1, kz⟩ := pv_rii_e k; have k := kz; clear kz; rw [hX] at k
    obtain ⟨lo, la⟩ := pv_Hp_lt hH (o := a) (by rw [ht]; omega)
    have he := pv_ws_at dA bs sb g h lo
    rw [pv_en_arr dA bs sb ht (by omega) (by omega)] at he
    have en : vp_nar .boolean x = x := by rcases k1 with rfl | rfl <;> rfl
    show W p l e R s m args below meth c H locs cs ss Q (F0 m pc lsA (.int x :: .int i :: .ref (pv_ad bs sb a) :: _))
    rw [la]
    exact va_zast hx hb hK.1 hH.2.2 hD hS a 1 he rfl k0 hd (fun H1 locs1 a1 _ a3 => k hg hcs hss H1 locs1 lsA (pv_Hp_set (g' := g) (h' := pv_st h a i.toNatClampNeg x) hH rfl (fun _ => rfl) (by rw [pv_en_arr dA bs sb ht (by omega) (by omega), pv_st_at, en]) (fun q hq => pv_en_congr dA bs sb rfl (fun _ => rfl) (pv_st_ne h _ _ hq)) a1) a3 hL)
  case aaload =>
    obtain ⟨rfl, k⟩ := h0; obtain ⟨a, i, r, rfl, ht, k0, kz⟩ := pv_ri_e k; have k := kz; clear kz; rw [hX] at k
    obtain ⟨lo, la⟩ := pv_Hp_lt hH (o := a) (by rcases ht with z | z <;> rw [z] <;> omega)
    have he := pv_ws_at dA bs sb g h lo
    have k' := k hg hcs hss H locs lsA hH hS hL
    rw [List.map_cons, pv_va_rf] at k'
    show W p l e R s m args below meth c H locs cs ss Q (F0 m pc lsA (.int i :: .ref (pv_ad bs sb a) :: _))
    rw [la]
    have hlt : i.toNatClampNeg < (pv_tg g a).2 := Nat.not_le.mp fun q => k0 (Or.inr q)
    rcases ht with ht | ht
    · rw [pv_en_arq dA bs sb ht (by omega)] at he
      exact va_aldq hx hb hK.1 hH.2.2 a 2 he rfl k0 hd k'
    · rw [pv_en_arq dA bs sb ht (by omega)] at he
      exact W.aald (v := va_rf ((pv_rf g a i.toNatClampNeg).map (pv_ad bs sb))) (ty := .array .int) hx hb (hH.2.2 a _ he) ((hK.1.2 3 _ rfl).1 (pv_tg g a).2 (fun j => va_rf ((pv_rf g a j).map (pv_ad bs sb)))) rfl (fun q => by cases q) (by show ¬ (i < 0 ∨ (arrV _ _ _).slots.size ≤ _); rw [arrV_size]; exact k0) (by show (arrV _ _ _).slots[_]? = _; rw [arrV_read _ _ hlt]) rfl rfl hd k'
  case aastore =>
    obtain ⟨rfl, k⟩ := h0; obtain ⟨a, i, x, r, rfl, ht, htx, k0, kz⟩ := pv_rir_e k; have k := kz; clear kz; rw [hX] at k
    obtain ⟨lo, la⟩ := pv_Hp_lt hH (o := a) (by rw [ht]; omega)
    obtain ⟨lox, lax⟩ := pv_Hp_lt hH (o := x) (by rw [htx]; omega)
    have he := pv_ws_at dA bs sb g h lo
    rw [pv_en_arq dA bs sb ht (by omega)] at he
    have hex := pv_ws_at dA bs sb g h lox
    rw [pv_en_obj dA bs sb htx (by omega)] at hex
    show W p l e R s m args below meth c H locs cs ss Q (F0 m pc lsA (.ref (pv_ad bs sb x) :: .int i :: .ref (pv_ad bs sb a) :: _))
    rw [la, lax]
    have ht2 : (pv_tg (pv_sr g a i.toNatClampNeg (some x)) a).1 = 102 := ht
    refine va_astq hx hb hK.1 hH.2.2 hD hS a 2 x 6 (r := (pv_Rn 6, pv_T 6, pv_N 6)) he rfl hex (pv_cl 6 (by omega)) k0 hd (fun H1 locs1 a1 _ a3 => k hg hcs hss H1 locs1 lsA (pv_Hp_set (g' := pv_sr g a i.toNatClampNeg (some x)) (h' := h) hH rfl (fun _ => rfl) ?_ (fun q hq => pv_en_congr dA bs sb rfl (fun _ => pv_sr_ne g _ _ hq _) rfl) a1) a3 hL)
    rw [pv_en_arq dA bs sb ht2 (by omega)]
    have e2 : (fun j => (pv_rf (pv_sr g a i.toNatClampNeg (some x)) a j).map (pv_ad bs sb)) = va_up (fun j => (pv_rf g a j).map (pv_ad bs sb)) i.toNatClampNeg (some (bs + x)) := by
      funext j
      rw [pv_sr_at]
      unfold va_up
      split
      · rw [← lax]; rfl
      · rfl
    rw [e2]
    rfl
  case arraylength =>
    obtain ⟨rfl, k⟩ := h0; obtain ⟨a, r, rfl, kz⟩ := pv_r1_e k; have k := kz; clear kz
    cases hs : sc with
    | some z =>
      rw [hs] at k
      obtain ⟨ha, k9⟩ := k; rw [hX] at k9
      subst ha
      obtain ⟨z1, z2⟩ := hsc z hs
      have e1 : pv_ad bs sb pv_SC = sb := if_pos rfl
      show W p l e R s m args below meth c H locs cs ss Q (F0 m pc lsA (.ref (pv_ad bs sb pv_SC) :: _))
      rw [e1]
      exact va_slen hx hb z1 (by omega) (Nat.not_le.mpr z2) hS hd (k9 hg hcs hss H locs lsA hH hS hL)
    | none =>
      rw [hs] at k
      obtain ⟨ht, k⟩ := k; rw [hX] at k
      obtain ⟨lo, la⟩ := pv_Hp_lt hH (o := a) (by rw [ht]; omega)
      have he := pv_ws_at dA bs sb g h lo
      rw [pv_en_arr dA bs sb ht (by omega) (by omega)] at he
      show W p l e R s m args below meth c H locs cs ss Q (F0 m pc lsA (.ref (pv_ad bs sb a) :: _))
      rw [la]
      exact va_alen hx hb hK.1 hH.2.2 a 0 he rfl rfl hd (k hg hcs hss H locs lsA hH hS hL)
  case new j =>
    obtain ⟨rfl, k⟩ := h0
    cases hq : pv_nw own j with
    | none => rw [hq] at k; exact k.elim
    | some E =>
      rw [hq] at k
      obtain ⟨k1, k2, k3, k⟩ := k; rw [hX] at k
      obtain ⟨w1, w2, w3, w4⟩ := pv_nw_ok hq
      refine pv_size fun hzz => ?_
      obtain ⟨t1, t2, t3⟩ := pv_new0 (g := g) (h := h) (t := E.2.2.1) (n := 0)
      have t1' : (pv_tg (pv_newO g E.2.2.1 0) g.1).1 = E.2.2.1 := by rw [t1]
      refine va_new (fs := (List.range (pv_N E.2.2.1)).map (fun k => pv_fv bs sb E.2.2.1 (pv_newO g E.2.2.1 0) (pv_newH g h) g.1 k)) hx hb hts (pv_uIn _ w4) (pv_ty E.2.2.1) (pv_tyOk _ w4) hown (hts _ w1) (hts _ w2) (hts _ w3) hK.1 hH.2.2 hD hS hA (pv_cl _ w4) (fun z hz2 => ?_) (by omega) (by omega) hd (fun q H1 hP1 hD1 hS1 => pv_size fun hz1 => ?_)
      · have a := (pv_okK _ w4 z hz2).1
        unfold vp_V
        rw [List.getD_eq_getElem?_getD, pv_fv_at bs sb hz2]
        unfold pv_fv
        rw [t2, t3]
        generalize pv_ty E.2.2.1 z = ty at a ⊢
        by_cases hk2 : pv_K E.2.2.1 z = 2
        · rw [if_pos hk2]
          rw [hk2] at a
          cases ty <;> first | rfl | cases a
        · rw [if_neg hk2]
          generalize pv_K E.2.2.1 z = kk at a hk2
          cases ty <;> first | rfl | (match kk, a, hk2 with | 2, _, z => exact absurd rfl z)
      · have eq := pv_newA hP1 hD1 (by omega)
        subst eq
        have k' := k (show g.1 + 1 = n0 + (cs + 1) by omega) k2 k3 H1 locs lsA (pv_Hp_push hH k1 (pv_en_obj dA bs sb t1' w4) hP1) hS1 hL
        rw [List.map_cons] at k'
        have e2 : pv_va bs sb (.ref g.1) = .ref (bs + g.1) := congrArg Value.ref (pv_ad_lt (by omega))
        rw [e2] at k'
        exact k'
  case newarray t =>
    obtain ⟨rfl, k⟩ := h0; obtain ⟨a, r, e0, kz⟩ := pv_i1_e k
    subst e0
    obtain ⟨k1, k2, k3, k4, k5, k6⟩ := kz
    clear k
    have e2 : pv_va bs sb (.ref g.1) = .ref (bs + g.1) := congrArg Value.ref (pv_ad_lt (by omega))
    cases t <;> first | exact k6.elim | skip
    · rw [hX] at k6
      obtain ⟨t1, t2, t3⟩ := pv_new0 (g := g) (h := h) (t := 101) (n := a.toNatClampNeg)
      have t1' : (pv_tg (pv_newO g 101 a.toNatClampNeg) g.1).1 = 101 := by rw [t1]
      refine pv_size fun hzz => ?_
      refine va_newa (atype := .boolean) (ty := .boolean) (a0 := (a.toNatClampNeg, .inl (fun _ => 0))) hx hb (hts _ pv_wZ) rfl hK.1 hH.2.2 hD hS hA (fun cA => rfl) k2 rfl (by show a.toNatClampNeg * 1 ≤ _; omega) (by omega) (by omega) hd (fun q cA H1 hK1 hP1 hD1 hS1 => pv_size fun hz1 => ?_)
      have eq := pv_newA hP1 hD1 (by omega)
      subst eq
      have ec : cA = dA 1 := Option.some.inj ((show s.vm.findClass _ = some cA from (hK1.2 4 _ rfl).2).symm.trans (show s.vm.findClass _ = some (dA 1) from (hK.1.2 1 _ rfl).2))
      subst ec
      have k' := k6 (show g.1 + 1 = n0 + (cs + 1) by omega) k4 k5 H1 locs lsA (pv_Hp_push hH k1 (by rw [pv_en_arr dA bs sb t1' (by omega) (by omega), t1, t3]) hP1) hS1 hL
      rw [List.map_cons, e2] at k'
      exact k'
    · rw [hX] at k6
      obtain ⟨t1, t2, t3⟩ := pv_new0 (g := g) (h := h) (t := 100) (n := a.toNatClampNeg)
      have t1' : (pv_tg (pv_newO g 100 a.toNatClampNeg) g.1).1 = 100 := by rw [t1]
      refine pv_size fun hzz => ?_
      refine va_newa (atype := .int) (ty := .int) (a0 := (a.toNatClampNeg, .inl (fun _ => 0))) hx hb (hts _ pv_wI) rfl hK.1 hH.2.2 hD hS hA (fun cA => rfl) k2 rfl (by show a.toNatClampNeg * 4 ≤ _; omega) (by omega) (by omega) hd (fun q cA H1 hK1 hP1 hD1 hS1 => pv_size fun hz1 => ?_)
      have eq := pv_newA hP1 hD1 (by omega)
      subst eq
      have ec : cA = dA 0 := Option.some.inj ((show s.vm.findClass _ = some cA from (hK1.2 4 _ rfl).2).symm.trans (show s.vm.findClass _ = some (dA 0) from (hK.1.2 0 _ rfl).2))
      subst ec
      have k' := k6 (show g.1 + 1 = n0 + (cs + 1) by omega) k4 k5 H1 locs lsA (pv_Hp_push hH k1 (by rw [pv_en_arr dA bs sb t1' (by omega) (by omega), t1, t3]) hP1) hS1 hL
      rw [List.map_cons, e2] at k'
      exact k'
  case anewarray j =>
    obtain ⟨rfl, o0, rfl, k⟩ := h0; obtain ⟨a, r, e0, kz⟩ := pv_i1_e k
    subst e0
    obtain ⟨k1, k2, k3, k4, k5, k6⟩ := kz
    clear k
    have o0 : own = 0 := o0
    subst o0
    rw [hX] at k6
    have e2 : pv_va bs sb (.ref g.1) = .ref (bs + g.1) := congrArg Value.ref (pv_ad_lt (by omega))
    obtain ⟨t1, t2, t3⟩ := pv_new0 (g := g) (h := h) (t := 102) (n := a.toNatClampNeg)
    have t1' : (pv_tg (pv_newO g 102 a.toNatClampNeg) g.1).1 = 102 := by rw [t1]
    obtain ⟨E, hE, h6⟩ : ∃ E, pv_nw 0 9 = some E ∧ E.2.2.1 = 6 := ⟨_, rfl, rfl⟩
    have hw := (pv_nw_ok hE).1
    rw [h6] at hw
    refine pv_size fun hzz => ?_
    refine va_newq (C := RX6) hx hb hown (hts _ hw) hK.2.1 hK.1 hH.2.2 hD hS hA k2 rfl (by omega) (by omega) (by omega) hd (fun q cA H1 hK1 hP1 hD1 hS1 => pv_size fun hz1 => ?_)
    have eq := pv_newA hP1 hD1 (by omega)
    subst eq
    obtain ⟨_, _, _, _, _, c1⟩ := (hK1.2 4 (cA, .object RX6) rfl).2
    obtain ⟨_, _, _, _, _, c2⟩ := (hK.1.2 2 (dA 2, .object RX6) rfl).2
    have ec : cA = dA 2 := Option.some.inj (c1.symm.trans c2)
    subst ec
    have k' := k6 (show g.1 + 1 = n0 + (cs + 1) by omega) k4 k5 H1 locs lsA (pv_Hp_push hH k1 (by rw [pv_en_arq dA bs sb t1' (by omega), t1]; simp only [t2]; rfl) hP1) hS1 hL
    rw [List.map_cons, e2] at k'
    exact k'
  case multianewarray j d =>
    obtain ⟨rfl, o0, rfl, rfl, k⟩ := h0; obtain ⟨a, b2, r, e0, kz⟩ := pv_i2_e k
    subst e0
    obtain ⟨k1, k2, k3, k4, k5, k6, k7⟩ := kz
    clear k
    have o0 : own = 3 := o0
    subst o0
    rw [hX] at k7
    have e2 : pv_va bs sb (.ref g.1) = .ref (bs + g.1) := congrArg Value.ref (pv_ad_lt (by omega))
    refine pv_size fun hzz => ?_
    have hHz : H.size = bs + g.1 := pv_Hsz hH (by have := hS.1; omega) (by omega)
    intro T hT Xs
    obtain ⟨vm₁, cA, comp, -, fA, fC, hO, -, X', step⟩ := Xs.multianewarray2F hx hown (hts _ pv_wII) hK.2.2.1 (hts _ pv_wI) (g := F0 m pc lsA (.int b2 :: .int a :: r.map (pv_va bs sb))) rfl (by rw [hb]; exact hd) rfl k2 k3 (by omega) (by show b2.toNatClampNeg * 4 ≤ _; omega) (by omega) rfl rfl (by omega) (by omega)
    have ec : cA = dA 3 := Option.some.inj (fA.symm.trans (show s.vm.findClass _ = some (dA 3) from (hK.1.2 3 _ rfl).2))
    have ec2 : comp = dA 0 := Option.some.inj (fC.symm.trans (show s.vm.findClass _ = some (dA 0) from (hK.1.2 0 _ rfl).2))
    subst ec
    subst ec2
    obtain ⟨f1, f2, -, -⟩ := Jvm.Free.Multi.fill_facts (T.setVm vm₁) (dA 3) (dA 0) a.toNatClampNeg b2.toNatClampNeg (defaultValue .int) a.toNatClampNeg
    have hTh : (T.setVm vm₁).heap = H := hT
    have hold : ∀ x : Nat, x < H.size → (Jvm.Free.Multi.fill (T.setVm vm₁) (dA 3) (dA 0) a.toNatClampNeg b2.toNatClampNeg (defaultValue .int) a.toNatClampNeg).heap[x]? = H[x]? := fun x hx2 => by
      have := Jvm.Free.Multi.fill_old (T.setVm vm₁) (dA 3) (dA 0) a.toNatClampNeg b2.toNatClampNeg (defaultValue .int) (a := x) (by rw [hTh]; exact hx2) a.toNatClampNeg
      rw [hTh] at this
      exact this
    have hrow : ∀ z : Nat, z < a.toNatClampNeg → (Jvm.Free.Multi.fill (T.setVm vm₁) (dA 3) (dA 0) a.toNatClampNeg b2.toNatClampNeg (defaultValue .int) a.toNatClampNeg).heap[H.size + 1 + z]? = some (vp_cell (dA 0) (b2.toNatClampNeg, .inl (fun _ => 0))) := fun z hz2 => by
      have := Jvm.Free.Multi.fill_inner (T.setVm vm₁) (dA 3) (dA 0) a.toNatClampNeg b2.toNatClampNeg (defaultValue .int) a.toNatClampNeg z hz2
      rw [hTh, pv_inner] at this
      exact this
    have et : T.heap.size = bs + g.1 := by rw [hT]; exact hHz
    rw [et] at step
    rw [hTh, hHz] at f1 f2
    rw [hHz] at hrow
    generalize Jvm.Free.Multi.fill (T.setVm vm₁) (dA 3) (dA 0) a.toNatClampNeg b2.toNatClampNeg (defaultValue .int) a.toNatClampNeg = F at X' step f1 f2 hold hrow
    have hHp : pv_Hp D dA bs sb (pv_newM g a.toNatClampNeg b2.toNatClampNeg) (pv_newMH g h a.toNatClampNeg) F.heap := by
      refine ⟨?_, fun o ho => ?_, ?_⟩
      · show g.1 + 1 + a.toNatClampNeg ≤ 1000
        omega
      · have ho : g.1 + 1 + a.toNatClampNeg ≤ o := ho
        have e : pv_tg (pv_newM g a.toNatClampNeg b2.toNatClampNeg) o = pv_tg g o := by
          show (if o = g.1 then _ else if g.1 < o ∧ o < g.1 + 1 + a.toNatClampNeg then _ else g.2.1 o) = _
          rw [if_neg (by omega), if_neg (by omega)]
          rfl
        rw [e]
        exact hH.2.1 o (by omega)
      · intro z q hq
        obtain ⟨z1, z2⟩ := pv_ws_inv dA bs sb _ _ hq
        have z1 : z < g.1 + 1 + a.toNatClampNeg := z1
        rw [pv_ws_at dA bs sb _ _ z1] at hq
        cases hq
        rcases Nat.lt_trichotomy z g.1 with y | y | y
        · have e : pv_en dA bs sb (pv_newM g a.toNatClampNeg b2.toNatClampNeg) (pv_newMH g h a.toNatClampNeg) z = pv_en dA bs sb g h z := by
            refine pv_en_congr dA bs sb ?_ (fun w => ?_) (funext fun _ => if_neg (by omega))
            · show (if z = g.1 then _ else if g.1 < z ∧ z < g.1 + 1 + a.toNatClampNeg then _ else g.2.1 z) = _
              rw [if_neg (by omega), if_neg (by omega)]
              rfl
            · show (if z = g.1 then _ else if g.1 < z ∧ z < g.1 + 1 + a.toNatClampNeg then _ else g.2.2 z w) = _
              rw [if_neg (by omega), if_neg (by omega)]
              rfl
          rw [e]
          exact (va_P.kept hH.2.2 (fun k9 x hx9 => hold x.1 ((hH.2.2 k9 x hx9).lt))) z _ (pv_ws_at dA bs sb g h y)
        · subst y
          have e1 : pv_tg (pv_newM g a.toNatClampNeg b2.toNatClampNeg) g.1 = (103, a.toNatClampNeg) := if_pos rfl
          have e3 : (fun j => (pv_rf (pv_newM g a.toNatClampNeg b2.toNatClampNeg) g.1 j).map (pv_ad bs sb)) = (fun i => if i < a.toNatClampNeg then some (bs + g.1 + 1 + i) else none) := funext fun j => by
            show ((if g.1 = g.1 then (if j < a.toNatClampNeg then some (g.1 + 1 + j) else none) else _ : Option Nat)).map (pv_ad bs sb) = _
            rw [if_pos rfl]
            split
            · next hj => exact congrArg some ((pv_ad_lt (by omega)).trans (by omega))
            · rfl
          rw [pv_en_arq dA bs sb (congrArg Prod.fst e1) (by omega), e1, e3]
          show F.heap[bs + g.1]? = some (vp_cell _ _)
          rw [f2, vr_outer, vp_cell_q]
          rfl
        · have e1 : pv_tg (pv_newM g a.toNatClampNeg b2.toNatClampNeg) z = (100, b2.toNatClampNeg) := by
            show (if z = g.1 then _ else if g.1 < z ∧ z < g.1 + 1 + a.toNatClampNeg then _ else g.2.1 z) = _
            rw [if_neg (by omega), if_pos (by omega)]
          have e3 : pv_newMH g h a.toNatClampNeg z = fun _ => 0 := funext fun j => if_pos (by omega)
          rw [pv_en_arr dA bs sb (congrArg Prod.fst e1) (by omega) (by omega), e1, e3]
          show F.heap[bs + z]? = some (vp_cell _ _)
          have := hrow (z - g.1 - 1) (by omega)
          rw [show bs + g.1 + 1 + (z - g.1 - 1) = bs + z by omega] at this
          exact this
    have k' := k7 (show g.1 + 1 + a.toNatClampNeg = n0 + (cs + (1 + a.toNatClampNeg)) by omega) k5 k6 F.heap locs lsA hHp ⟨by rw [f1]; have := hS.1; omega, fun q q1 q2 => by rw [hold q (by have := hS.1; omega)]; exact hS.2.1 q q1 q2, hS.2.2⟩ hL
    rw [List.map_cons, e2] at k'
    rw [show cs + (1 + a.toNatClampNeg) = cs + 1 + a.toNatClampNeg by omega, show ss + (a.toNatClampNeg + a.toNatClampNeg * b2.toNatClampNeg) = ss + a.toNatClampNeg + a.toNatClampNeg * b2.toNatClampNeg by omega] at k'
    obtain ⟨t, a1, b1⟩ := k' F rfl X'
    exact ⟨t, step t a1, b1⟩
  case invokevirtual j =>
    obtain ⟨rfl, k⟩ := h0
    cases hq : pv_ml own j with
    | none => rw [hq] at k; exact k.elim
    | some E =>
      rw [hq] at k
      obtain ⟨hk0, hn, k⟩ := k
      obtain ⟨o, rest, hdr, ht, k1, k2, k3, k4⟩ := pv_r1_e k
      obtain ⟨hy, rm, hM, r1, r2, r3, r4⟩ := hcall _ _ _ _ _ k4
      obtain ⟨hm1, -, hm2, hm3⟩ := pv_okM E (List.mem_of_find?_eq_some hq)
      have hf := List.find?_some hq
      simp only [Bool.and_eq_true, beq_iff_eq] at hf
      obtain ⟨rfl, rfl⟩ := hf
      simp only [pv_fM, hk0, Bool.and_eq_true, decide_eq_true_eq, Bool.or_eq_true] at hm3
      obtain ⟨⟨⟨⟨-, m1⟩, m2⟩, m3⟩, m4⟩ := hm3
      have hw : ∀ w ∈ pv_wM E, w ∈ pv_WL := pv_zip hm1 (by
        have : pv_wM E = .methodLink (pv_Rn E.1) E.2.1 (pv_nm E.2.2.2.1) :: (pv_wM E).drop 1 := by simp [pv_wM, hk0]
        rw [this]
        simp only [List.all_cons, hm2, Bool.and_true]
        rfl)
      have hwM : pv_wM E = [.methodLink (pv_Rn E.1) E.2.1 (pv_nm E.2.2.2.1), .instanceMethod (pv_nm E.2.2.2.1), .initialized (pv_nm E.2.2.2.1).cls, .selects (pv_nm E.2.2.2.1).cls (pv_nm E.2.2.2.1) (pv_nm E.2.2.2.1)] := by simp [pv_wM, hk0]
      rw [hwM] at hw
      have cb : CallB R s args (pv_Rn E.1) E.2.1 (pv_nm E.2.2.2.1) (pv_cd E.2.2.2.1) (pv_mL E.2.2.2.1) (pv_rt E.2.2.2.1) (pv_wd E.2.2.2.1) rm (pv_mc E.2.2.2.1) (pv_ms E.2.2.2.1) (pv_np E.2.2.2.1) := callB_of (pv_np E.2.2.2.1) hts (pv_wdIn hy) rfl r1 r2 (hts _ (hw _ (by simp))) (hts _ (hw _ (by simp))) ⟨m3.1, m3.2, m2⟩ ⟨r3, r4⟩
      obtain ⟨lo, la⟩ := pv_Hp_lt hH (o := o) (by rw [ht]; omega)
      have he := pv_ws_at dA bs sb g h lo
      rw [pv_en_obj dA bs sb ht m4] at he
      refine pv_size fun hzz => ?_
      have hHz : H.size = bs + g.1 := pv_Hsz hH (by have := hS.1; omega) (by omega)
      have hrc := va_recv hK.1 hH.2.2 (pv_cl _ m4) he
      have hst : st.map (pv_va bs sb) = ((st.take (pv_np E.2.2.2.1)).reverse.map (pv_va bs sb)).reverse ++ .ref (bs + o) :: rest.map (pv_va bs sb) := by
        conv => lhs; rw [← pv_argsR hn, hdr]
        simp [pv_va, la]
      exact pv_back hX hz hg k2 k3 hS hL (va_runV (As := (st.take (pv_np E.2.2.2.1)).reverse.map (pv_va bs sb)) (C := (pv_nm E.2.2.2.1).cls) (b := bs + o) ⟨hx, hb, hml, hown, hts⟩ hM ⟨cb, hts _ (hw _ (by simp)), hts _ (hw _ (by simp))⟩ ⟨pv_blind D dA bs sb _ g h, by rw [m1]; exact hrc, fun U hU hW => ⟨by simp [pv_va, la], by rw [hU]; exact hH, by rw [hU]; exact hHz, hK.warm hW⟩⟩ rfl (by simp [hn]) hL.2.1 hst (lv_room (m := m) (pc := pc) (ls := lsA) (rest := st.map (pv_va bs sb)) (by rw [pv_va_catS]; exact k1)) hd ⟨by omega, by omega⟩)
  case invokespecial j =>
    obtain ⟨rfl, k⟩ := h0
    cases hq : pv_ml own j with
    | none => rw [hq] at k; exact k.elim
    | some E =>
      rw [hq] at k
      obtain ⟨hm1, -, hm2, hm3⟩ := pv_okM E (List.mem_of_find?_eq_some hq)
      have hf := List.find?_some hq
      simp only [Bool.and_eq_true, beq_iff_eq] at hf
      obtain ⟨rfl, rfl⟩ := hf
      rcases k with ⟨hk0, k⟩ | ⟨hk0, hn, k⟩
      · obtain ⟨o, r, e0, k1, kz⟩ := pv_r1_e k
        subst e0
        clear k
        rw [hX] at kz
        have hwM : pv_wM E = [.methodLink (pv_Rn E.1) E.2.1 Lib.objectInit] := by simp [pv_wM, hk0]
        have hw : ∀ w ∈ pv_wM E, w ∈ pv_WL := pv_zip hm1 (by rw [hwM]; rfl)
        rw [hwM] at hw
        exact W.objInit (a := pv_ad bs sb o) hx hb hown (hts _ (hw _ (by simp))) (hts _ pv_wO1) (hts _ pv_wO2) rfl (by rw [hml]; exact hL.2.1) rfl hd hR1 (by rw [pv_va_catS]; show 2 * 0 + pv_cat r + 12 ≤ _; omega) (kz hg hcs hss H locs lsA hH hS hL)
      · obtain ⟨o, rest, hdr, k1, k2, k3, k4⟩ := pv_r1_e k
        obtain ⟨hy, rm, hM, r1, r2, r3, r4⟩ := hcall _ _ _ _ _ k4
        simp only [pv_fM, hk0, Bool.and_eq_true, decide_eq_true_eq, Bool.or_eq_true] at hm3
        obtain ⟨⟨⟨⟨-, m1⟩, m2⟩, m3⟩, m4, m5⟩ := hm3
        have hwM : pv_wM E = [.methodLink (pv_Rn E.1) E.2.1 (pv_nm E.2.2.2.1), .instanceMethod (pv_nm E.2.2.2.1), .initialized (pv_nm E.2.2.2.1).cls] := by simp [pv_wM, hk0]
        have hw : ∀ w ∈ pv_wM E, w ∈ pv_WL := pv_zip hm1 (by
          have : pv_wM E = .methodLink (pv_Rn E.1) E.2.1 (pv_nm E.2.2.2.1) :: (pv_wM E).drop 1 := by simp [pv_wM, hk0]
          rw [this]
          simp only [List.all_cons, hm2, Bool.and_true]
          rfl)
        rw [hwM] at hw
        have cb : CallB R s args (pv_Rn E.1) E.2.1 (pv_nm E.2.2.2.1) (pv_cd E.2.2.2.1) (pv_mL E.2.2.2.1) (pv_rt E.2.2.2.1) (pv_wd E.2.2.2.1) rm (pv_mc E.2.2.2.1) (pv_ms E.2.2.2.1) (pv_np E.2.2.2.1) := callB_of (pv_np E.2.2.2.1) hts (pv_wdIn hy) rfl r1 r2 (hts _ (hw _ (by simp))) (hts _ (hw _ (by simp))) ⟨m3.1, m3.2, m2⟩ ⟨r3, r4⟩
        rw [m5] at cb
        refine pv_size fun hzz => ?_
        have hHz : H.size = bs + g.1 := pv_Hsz hH (by have := hS.1; omega) (by omega)
        have hst : st.map (pv_va bs sb) = ((st.take (pv_np E.2.2.2.1)).reverse.map (pv_va bs sb)).reverse ++ .ref (pv_ad bs sb o) :: rest.map (pv_va bs sb) := by
          conv => lhs; rw [← pv_argsR hn, hdr]
          simp [pv_va]
        exact pv_back hX hz hg k2 k3 hS hL (va_runI (As := (st.take (pv_np E.2.2.2.1)).reverse.map (pv_va bs sb)) (b := pv_ad bs sb o) ⟨hx, hb, hml, hown, hts⟩ hM ⟨cb, m4, hts _ (hw _ (by simp))⟩ ⟨pv_blind D dA bs sb _ g h, fun U hU hW => ⟨by simp [pv_va], by rw [hU]; exact hH, by rw [hU]; exact hHz, hK.warm hW⟩⟩ rfl (by simp [hn]) hL.2.1 hst (lv_room (m := m) (pc := pc) (ls := lsA) (rest := st.map (pv_va bs sb)) (by rw [pv_va_catS]; exact k1)) hd ⟨by omega, by omega⟩)
  case invokestatic j =>
    obtain ⟨rfl, k⟩ := h0
    cases hq : pv_ml own j with
    | none => rw [hq] at k; exact k.elim
    | some E =>
      rw [hq] at k
      have hEm := List.mem_of_find?_eq_some hq
      obtain ⟨hm1, -, hm2, hm3⟩ := pv_okM E hEm
      have hf := List.find?_some hq
      simp only [Bool.and_eq_true, beq_iff_eq] at hf
      obtain ⟨rfl, rfl⟩ := hf
      rcases k with ⟨hk0, k⟩ | ⟨hk0, k⟩ | ⟨hk0, hn, k1, k2, k3, k4⟩
      · obtain ⟨x, y, r, e0, k1, kz⟩ := pv_i2_e k
        subst e0
        clear k
        rw [hX] at kz
        simp only [pv_fM, hk0, Bool.and_eq_true, decide_eq_true_eq, Bool.or_eq_true] at hm3
        have m4 := hm3.2
        have hwM : pv_wM E = [.methodLink (pv_Rn E.1) E.2.1 Lib.Math.max.name, .static Lib.Math.max.name, .initialized "java/lang/Math"] := by simp only [pv_wM, hk0, m4]; rfl
        have hw : ∀ w ∈ pv_wM E, w ∈ pv_WL := pv_zip hm1 (by rw [hwM]; rfl)
        rw [hwM] at hw
        exact va_mmax hx hb (by rw [hml]; exact hL.2.1.symm) hown (hts _ (hw _ (by simp))) (hts _ (hw _ (by simp))) (hts _ (hw _ (by simp))) (hts _ (pv_okC 167 (by omega) (by omega))) hR1 (by rw [pv_va_catS]; omega) (by omega) (by omega) hd (kz hg hcs hss H locs lsA hH hS hL)
      · obtain ⟨a0, sp, a, dp, n, r, e0, k1, t0, t1, k2, k3, k4, k5, k6, kz⟩ := pv_ac_e k
        subst e0
        clear k
        rw [hX] at kz
        have hwM : pv_wM E = [.methodLink (pv_Rn E.1) E.2.1 arraycopyName] := by simp [pv_wM, hk0]
        have hw : ∀ w ∈ pv_wM E, w ∈ pv_WL := pv_zip hm1 (by rw [hwM]; rfl)
        rw [hwM] at hw
        obtain ⟨lo0, la0⟩ := pv_Hp_lt hH (o := a0) (by rw [t0]; omega)
        obtain ⟨lo, la⟩ := pv_Hp_lt hH (o := a) (by rw [t1]; omega)
        have he0 := pv_ws_at dA bs sb g h lo0
        rw [pv_en_arr dA bs sb t0 (by omega) (by omega)] at he0
        have he := pv_ws_at dA bs sb g h lo
        rw [pv_en_arr dA bs sb t1 (by omega) (by omega)] at he
        show W p l e R s m args below meth c H locs cs ss Q (F0 m pc lsA (.int n :: .int dp :: .ref (pv_ad bs sb a) :: .int sp :: .ref (pv_ad bs sb a0) :: r.map (pv_va bs sb)))
        rw [la, la0]
        have nw := pv_natW
        exact va_copyi hx hb (by rw [hml]; exact hL.2.1.symm) hown (hts _ (hw _ (by simp))) (hts _ pv_wA2) (hts _ pv_wA1) (hts _ pv_wS) hK.1 hH.2.2 hD hS a0 a 0 0 he0 he rfl rfl rfl k2 k3 k4 k5 k6 (fun _ _ => rfl) hR1 (by rw [pv_va_catS]; omega) hd (fun H1 locs1 a1 _ a3 => kz hg hcs hss H1 locs1 lsA (pv_Hp_set (g' := g) (h' := pv_cpy h a0 a sp.toNatClampNeg dp.toNatClampNeg n.toNatClampNeg) hH rfl (fun _ => rfl) (by rw [pv_en_arr dA bs sb t1 (by omega) (by omega)]; congr 3; exact congrArg Sum.inl (funext fun j => if_pos rfl)) (fun q hq => pv_en_congr dA bs sb rfl (fun _ => rfl) (funext fun j => if_neg hq)) a1) a3 hL)
      · obtain ⟨hy, rm, hM, r1, r2, r3, r4⟩ := hcall _ _ _ _ _ k4
        have m12 : (parseMethodDescriptor (pv_nm E.2.2.2.1).desc).map (fun d => d.parameters.length) = some (pv_np E.2.2.2.1) ∧ (pv_nm E.2.2.2.1).cls ≠ "java/lang/invoke/MethodHandle" ∧ (pv_nm E.2.2.2.1).cls ≠ "java/lang/invoke/VarHandle" := by
          simp only [pv_fM, Bool.and_eq_true, decide_eq_true_eq, Bool.or_eq_true] at hm3
          exact ⟨hm3.1.1.2, hm3.1.2⟩
        have hw2 : ∀ w ∈ (pv_wM E).drop 1, w ∈ pv_WL := by
          have z := congrArg (List.drop 1) hm1
          rw [← List.map_drop, ← List.map_drop] at z
          exact pv_zip z hm2
        have hwM : (pv_wM E).drop 1 = [.static (pv_nm E.2.2.2.1), .initialized (pv_nm E.2.2.2.1).cls] := by rcases hk0 with z | z | z <;> simp [pv_wM, z]
        rw [hwM] at hw2
        refine pv_size fun hzz => ?_
        have hHz : H.size = bs + g.1 := pv_Hsz hH (by have := hS.1; omega) (by omega)
        have hst : st.map (pv_va bs sb) = ((st.take (pv_np E.2.2.2.1)).reverse.map (pv_va bs sb)).reverse ++ (st.drop (pv_np E.2.2.2.1)).map (pv_va bs sb) := by
          conv => lhs; rw [← pv_argsR hn]
          simp
        have hp : PreS s H (pv_Pc D dA bs sb (st.take (pv_np E.2.2.2.1)).reverse g h) ((st.take (pv_np E.2.2.2.1)).reverse.map (pv_va bs sb)) := ⟨pv_blind D dA bs sb _ g h, fun U hU hW => ⟨rfl, by rw [hU]; exact hH, by rw [hU]; exact hHz, hK.warm hW⟩⟩
        have hcat : 2 * (F0 m pc lsA (st.map (pv_va bs sb))).monitorRoom + (((st.drop (pv_np E.2.2.2.1)).map (pv_va bs sb)).map fun v => v.category).sum ≤ 8 := lv_room (m := m) (pc := pc) (ls := lsA) (rest := st.map (pv_va bs sb)) (by rw [pv_va_catS]; exact k1)
        by_cases h3 : E.2.2.1 = 3
        · have cn := va_cnB (R := R) (s := s) (args := args) (own := pv_Rn E.1) (host := "SinkingArchive") (index := E.2.1) (ret := pv_rt E.2.2.2.1) (bytes := pv_cd E.2.2.2.1) (maxL := pv_mL E.2.2.2.1) (pv_np E.2.2.2.1) hts (pv_wdIn hy) rfl r1 r2 (hK.2.2.2 E hEm h3) (hts _ (hw2 _ (by simp))) ⟨m12.2.1, m12.2.2, m12.1⟩ ⟨r3, r4⟩
          exact pv_back hX hz hg k2 k3 hS hL (va_runSN ⟨hx, hb, hml, hown, hts⟩ hM ⟨cn, hts _ (hw2 _ (by simp)), trivial⟩ hp rfl (by simp [hn]) hL.2.1 hst hcat hd ⟨by omega, by omega⟩)
        · have hw1 : Cond.methodLink (pv_Rn E.1) E.2.1 (pv_nm E.2.2.2.1) ∈ pv_WL := by
            have hwA : pv_wM E = .methodLink (pv_Rn E.1) E.2.1 (pv_nm E.2.2.2.1) :: (pv_wM E).drop 1 := by rcases hk0 with z | z | z <;> first | exact absurd z h3 | simp [pv_wM, z]
            refine pv_zip hm1 ?_ _ (by rw [hwA]; exact List.mem_cons_self)
            rw [hwA]
            simp only [List.all_cons, hm2, Bool.and_true]
            rfl
          have cb : CallB R s args (pv_Rn E.1) E.2.1 (pv_nm E.2.2.2.1) (pv_cd E.2.2.2.1) (pv_mL E.2.2.2.1) (pv_rt E.2.2.2.1) (pv_wd E.2.2.2.1) rm (pv_mc E.2.2.2.1) (pv_ms E.2.2.2.1) (pv_np E.2.2.2.1) := callB_of (pv_np E.2.2.2.1) hts (pv_wdIn hy) rfl r1 r2 (hts _ (hw2 _ (by simp))) (hts _ hw1) ⟨m12.2.1, m12.2.2, m12.1⟩ ⟨r3, r4⟩
          exact pv_back hX hz hg k2 k3 hS hL (va_runS ⟨hx, hb, hml, hown, hts⟩ hM ⟨cb, hts _ (hw2 _ (by simp))⟩ hp rfl (by simp [hn]) hL.2.1 hst hcat hd ⟨by omega, by omega⟩)
  case ireturn =>
    obtain ⟨rfl, k⟩ := h0; obtain ⟨x, r, rfl, rfl, rfl, rfl, k1, kz⟩ := pv_i1_e k; have k := kz; clear kz
    exact hri x g h H locs lsA pc hd k1 k hg hH hS
  case lreturn =>
    obtain ⟨rfl, k⟩ := h0; obtain ⟨x, r, rfl, rfl, rfl, rfl, k1, kz⟩ := pv_l1_e k; have k := kz; clear kz
    exact hrl x g h H locs lsA pc hd k1 k hg hH hS
  case return_ =>
    obtain ⟨rfl, rfl, rfl, rfl, k1, k⟩ := h0
    exact hrv g h H locs lsA pc hd k1 k hg hH hS
set_option maxHeartbeats 8000000 in
/-- a frame -/
theorem pv_sound_f {call : PvC} {own : Nat} {ini : Bool} {rt : Option FieldType} {mc ms : Nat} {P : PvP} {sc : Option (Nat × (Nat → Int32))} {b : ByteArray}
    (hx : p.tables.exec = Jvm.exec) (hb : c.code = b) (hml : c.maxLocals = nL) (hown : s.vm.findClass (pv_Rn own) = some m.cls) (hts : ∀ w ∈ pv_WL, w.before args s = true) (hK : pv_Kx D dA s) (hz : s.heap.size = bs + n0) (hin : ini = true → meth.name = "<init>") (hR1 : 1 ≤ R.frames) (hR2 : 100 ≤ R.locals) (hRc : mc ≤ R.cells) (hRs : ms ≤ R.slots)
    (hcall : pv_Ct l D dA bs sb R call) (hsc : ∀ z, sc = some z → va_X sb z.1 z.2 s s.heap ∧ sb < bs)
    (hri : ∀ (x : Int32) (g : PvG) (h : PvH) (H : Heap) (locs : List Loc) (lsA : Array Slot) (pc : Nat), decode b pc = .ok (.ireturn, 1) → (rt = some .int ∨ rt = some .boolean ∧ (x = 0 ∨ x = 1)) → P (some (.int x)) g h → g.1 = n0 + mc → pv_Hp D dA bs sb g h H → va_S (fun q => bs ≤ q) s.heap H locs → W p l e R s m args below meth c H locs mc ms Q (F0 m pc lsA [.int x]))
    (hrl : ∀ (x : Int64) (g : PvG) (h : PvH) (H : Heap) (locs : List Loc) (lsA : Array Slot) (pc : Nat), decode b pc = .ok (.lreturn, 1) → rt = some .long → P (some (.long x)) g h → g.1 = n0 + mc → pv_Hp D dA bs sb g h H → va_S (fun q => bs ≤ q) s.heap H locs → W p l e R s m args below meth c H locs mc ms Q (F0 m pc lsA [.long x]))
    (hrv : ∀ (g : PvG) (h : PvH) (H : Heap) (locs : List Loc) (lsA : Array Slot) (pc : Nat), decode b pc = .ok (.return_, 1) → rt = none → P none g h → g.1 = n0 + mc → pv_Hp D dA bs sb g h H → va_S (fun q => bs ≤ q) s.heap H locs → W p l e R s m args below meth c H locs mc ms Q (F0 m pc lsA []))
    {pc : Nat} {ls : PvL} {st : List Value} {cs ss : Nat} {g : PvG} {h : PvH} (h0 : pv_Ev (call, own, ini, rt, mc, ms, P, sc) b pc ls st cs ss g h) :
    pv_XM p l e R s m args below meth c Q D dA bs sb nL n0 mc ms pc ls st cs ss g h := by
  refine h0 (pv_XM p l e R s m args below meth c Q D dA bs sb nL n0 mc ms) fun pc ls st cs ss g h hs => ?_
  unfold pv_stp at hs
  split at hs
  · next i n hd => exact pv_sound_i hx hb hml hown hts hK hz hin hR1 hR2 hRc hRs hcall hsc hri hrl hrv rfl hd hs
  · exact hs.elim
end SE
/-- the room of a method of depth d -/
def pv_rm (d y : Nat) : Room := { frames := d, cells := pv_mc y, slots := pv_ms y, locals := 60 * d + 100 }
theorem pv_okL : ∀ i, i < 168 → pv_mL i ≤ 41 := by decide +kernel
theorem pv_F_of {bs : Nat} {st t : State} {H : Heap} {locs : List Loc} (hS : va_S (fun q => bs ≤ q) st.heap H locs) (ht : t.heap = H) (hb : bs ≤ st.heap.size) : st.heap.size ≤ t.heap.size ∧ ∀ q, q < bs → t.heap[q]? = st.heap[q]? := by
  refine ⟨by rw [ht]; exact hS.1, fun q hq => ?_⟩
  rw [ht]
  exact hS.2.1 q (by omega) (Nat.not_le.mpr hq)
set_option maxHeartbeats 8000000 in
/-- a method of depth d does what the small machine does -/
theorem pv_sound (l : Launch) (D : va_G) (dA : Nat → ClassId) (bs sb : Nat) : ∀ (d y : Nat) (As : List Value) (g : PvG) (h : PvH) (P : PvP), pv_run d y As g h P → y < 166 ∧ Met l (pv_nm y) (pv_wd y) (pv_rm d y) (pv_Pc D dA bs sb As g h) (pv_Qc D dA bs sb P (g.1 + pv_mc y)) (pv_mc y) (pv_ms y) (fun q => bs ≤ q)
  | 0, y, As, g, h, P, k => k.elim
  | d + 1, y, As, g, h, P, k => by
    obtain ⟨hy, hlen, k⟩ := k
    refine ⟨hy, ?_⟩
    have hcall : pv_Ct l D dA bs sb (pv_rm (d + 1) y) (pv_run d) := fun y' As' g' h' P' k' => by
      obtain ⟨hy', hM⟩ := pv_sound l D dA bs sb d y' As' g' h' P' k'
      have := pv_okL y' (by omega)
      exact ⟨hy', pv_rm d y', hM, rfl, rfl, Nat.le_refl _, by show 8 + (pv_mL y' + 11) + (60 * d + 100) ≤ 60 * (d + 1) + 100; omega⟩
    refine Met.ofW (cc := pv_cd y) (maxL := pv_mL y) (ret := pv_rt y) (pv_okPl y hy) rfl ?_
    intro p e s m args below meth c s₁ B hml hPc
    obtain ⟨rfl, hHp, hsz, hKx⟩ := hPc
    have hts0 := atoms_spec (ws := pv_wd y) B.pre
    have hts : ∀ w ∈ pv_WL, w.before ((As.map (pv_va bs sb)).toArray) s = true := fun w hw => hts0 w (List.mem_cons_of_mem _ hw)
    have hown : s.vm.findClass (pv_nm y).cls = some m.cls := findClass_of_methodNamed B.named
    rw [pv_okOw y (by omega)] at hown
    have hlocks := B.notSynchronized
    have hr := B.returns
    have hlv := pv_LR_ent (bs := bs) (sb := sb) hlen
    have hb0 : bs ≤ s.heap.size := by omega
    have F := pv_sound_f (Q := MQ below (pv_Qc D dA bs sb P (g.1 + pv_mc y)) (As.map (pv_va bs sb)).toArray s (pv_mc y) (pv_ms y) (fun q => bs ≤ q)) (below := below) (l := l) (e := e) (R := pv_rm (d + 1) y) (D := D) (dA := dA) (bs := bs) (sb := sb) (nL := pv_mL y) (n0 := g.1) (own := pv_ow y) (ini := pv_in y) (rt := pv_rt y) (mc := pv_mc y) (ms := pv_ms y) (P := P) (sc := none) B.exec B.bytes hml hown hts hKx hsz (fun z => by rw [(name_of_methodNamed B.named B.method).1]; exact pv_okIn y (by omega) z) (by show 1 ≤ d + 1; omega) (by show 100 ≤ 60 * (d + 1) + 100; omega) (Nat.le_refl _) (Nat.le_refl _) hcall (fun z hz => by cases hz)
      (fun x g1 h1 H locs lsA pc hd hrt hP1 hn1 hH1 hS1 => by
        rcases hrt with hrt | ⟨hrt, hx01⟩
        · exact W.iret B.exec B.bytes (hr.trans hrt) (fun t ht hW => ⟨some (.int x), g1, h1, rfl, hP1, by rw [ht]; exact hH1, hn1, pv_F_of hS1 ht hb0⟩) hS1.2.2 hd hlocks
        · exact W.zret (ty := .boolean) B.exec B.bytes (hr.trans hrt) (by rcases hx01 with rfl | rfl <;> rfl) (fun t ht hW => ⟨some (.int x), g1, h1, rfl, hP1, by rw [ht]; exact hH1, hn1, pv_F_of hS1 ht hb0⟩) hS1.2.2 hd hlocks)
      (fun x g1 h1 H locs lsA pc hd hrt hP1 hn1 hH1 hS1 => W.lret B.exec B.bytes (hr.trans hrt) (fun t ht hW => ⟨some (.long x), g1, h1, rfl, hP1, by rw [ht]; exact hH1, hn1, pv_F_of hS1 ht hb0⟩) hS1.2.2 hd hlocks)
      (fun g1 h1 H locs lsA pc hd hrt hP1 hn1 hH1 hS1 => W.vret B.exec B.bytes (hr.trans hrt) (fun t ht hW => ⟨none, g1, h1, rfl, hP1, by rw [ht]; exact hH1, hn1, pv_F_of hS1 ht hb0⟩) hS1.2.2 hd hlocks) k
    have F := F rfl (Nat.zero_le _) (Nat.zero_le _) s.heap [] _ hHp va_S.rf hlv
    rw [lg_entry_eq]
    exact F
