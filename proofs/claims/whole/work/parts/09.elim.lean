theorem pv_i1_e {st : List Value} {K : Int32 → List Value → Prop} (h : pv_i1 st K) : ∃ a r, st = .int a :: r ∧ K a r := by
  unfold pv_i1 at h; split at h
  · exact ⟨_, _, rfl, h⟩
  · exact h.elim
theorem pv_i2_e {st : List Value} {K : Int32 → Int32 → List Value → Prop} (h : pv_i2 st K) : ∃ a b r, st = .int b :: .int a :: r ∧ K a b r := by
  unfold pv_i2 at h; split at h
  · exact ⟨_, _, _, rfl, h⟩
  · exact h.elim
theorem pv_l1_e {st : List Value} {K : Int64 → List Value → Prop} (h : pv_l1 st K) : ∃ a r, st = .long a :: r ∧ K a r := by
  unfold pv_l1 at h; split at h
  · exact ⟨_, _, rfl, h⟩
  · exact h.elim
theorem pv_l2_e {st : List Value} {K : Int64 → Int64 → List Value → Prop} (h : pv_l2 st K) : ∃ a b r, st = .long b :: .long a :: r ∧ K a b r := by
  unfold pv_l2 at h; split at h
  · exact ⟨_, _, _, rfl, h⟩
  · exact h.elim
theorem pv_li_e {st : List Value} {K : Int64 → Int32 → List Value → Prop} (h : pv_li st K) : ∃ a b r, st = .int b :: .long a :: r ∧ K a b r := by
  unfold pv_li at h; split at h
  · exact ⟨_, _, _, rfl, h⟩
  · exact h.elim
theorem pv_r1_e {st : List Value} {K : Nat → List Value → Prop} (h : pv_r1 st K) : ∃ a r, st = .ref a :: r ∧ K a r := by
  unfold pv_r1 at h; split at h
  · exact ⟨_, _, rfl, h⟩
  · exact h.elim
theorem pv_ri_e {st : List Value} {K : Nat → Int32 → List Value → Prop} (h : pv_ri st K) : ∃ a i r, st = .int i :: .ref a :: r ∧ K a i r := by
  unfold pv_ri at h; split at h
  · exact ⟨_, _, _, rfl, h⟩
  · exact h.elim
theorem pv_rii_e {st : List Value} {K : Nat → Int32 → Int32 → List Value → Prop} (h : pv_rii st K) : ∃ a i x r, st = .int x :: .int i :: .ref a :: r ∧ K a i x r := by
  unfold pv_rii at h; split at h
  · exact ⟨_, _, _, _, rfl, h⟩
  · exact h.elim
theorem pv_rir_e {st : List Value} {K : Nat → Int32 → Nat → List Value → Prop} (h : pv_rir st K) : ∃ a i x r, st = .ref x :: .int i :: .ref a :: r ∧ K a i x r := by
  unfold pv_rir at h; split at h
  · exact ⟨_, _, _, _, rfl, h⟩
  · exact h.elim
theorem pv_v1_e {st : List Value} {K : Value → List Value → Prop} (h : pv_v1 st K) : ∃ v r, st = v :: r ∧ K v r := by
  unfold pv_v1 at h; split at h
  · exact ⟨_, _, rfl, h⟩
  · exact h.elim
theorem pv_v2_e {st : List Value} {K : Value → Value → List Value → Prop} (h : pv_v2 st K) : ∃ v w r, st = v :: w :: r ∧ K v w r := by
  unfold pv_v2 at h; split at h
  · exact ⟨_, _, _, rfl, h⟩
  · exact h.elim
theorem pv_vr_e {st : List Value} {K : Value → Nat → List Value → Prop} (h : pv_vr st K) : ∃ v o r, st = v :: .ref o :: r ∧ K v o r := by
  unfold pv_vr at h; split at h
  · exact ⟨_, _, _, rfl, h⟩
  · exact h.elim
theorem pv_ac_e {st : List Value} {K : Nat → Int32 → Nat → Int32 → Int32 → List Value → Prop} (h : pv_ac st K) : ∃ a0 sp a dp n r, st = .int n :: .int dp :: .ref a :: .int sp :: .ref a0 :: r ∧ K a0 sp a dp n r := by
  unfold pv_ac at h; split at h
  · exact ⟨_, _, _, _, _, _, rfl, h⟩
  · exact h.elim
theorem pv_li1_e {ls : PvL} {k : Nat} {K : Int32 → Prop} (h : pv_li1 ls k K) : ∃ x, ls[k]? = some (some (.int x)) ∧ K x := by
  unfold pv_li1 at h; split at h
  · next hx => exact ⟨_, hx, h⟩
  · exact h.elim
theorem pv_ll1_e {ls : PvL} {k : Nat} {K : Int64 → Prop} (h : pv_ll1 ls k K) : ∃ x, ls[k]? = some (some (.long x)) ∧ K x := by
  unfold pv_ll1 at h; split at h
  · next hx => exact ⟨_, hx, h⟩
  · exact h.elim
theorem pv_lr1_e {ls : PvL} {k : Nat} {K : Nat → Prop} (h : pv_lr1 ls k K) : ∃ x, ls[k]? = some (some (.ref x)) ∧ K x := by
  unfold pv_lr1 at h; split at h
  · next hx => exact ⟨_, hx, h⟩
  · exact h.elim
theorem pv_go_e {pc : Nat} {off : Int} {K : Nat → Prop} (h : pv_go pc off K) : ∃ t : Nat, (pc : Int) + off = (t : Int) ∧ K t := ⟨_, (Int.toNat_of_nonneg h.1).symm, h.2⟩
theorem pv_wO1 : Cond.instanceMethod Lib.objectInit ∈ pv_WL := pv_mem (i := 88) (by decide +kernel) rfl
theorem pv_wO2 : Cond.code Lib.objectInit ⟨#[0xb1]⟩ 1 none ∈ pv_WL := pv_mem (i := 89) (by decide +kernel) rfl
theorem pv_wA1 : Cond.static arraycopyName ∈ pv_WL := pv_mem (i := 547) (by decide +kernel) rfl
theorem pv_wA2 : Cond.native arraycopyName ∈ pv_WL := pv_mem (i := 548) (by decide +kernel) rfl
theorem pv_wS : Cond.initialized "java/lang/System" ∈ pv_WL := pv_mem (i := 79) (by decide +kernel) rfl
theorem pv_wI : Cond.arrayClass .int ∈ pv_WL := pv_mem (i := 158) (by decide +kernel) rfl
theorem pv_wZ : Cond.arrayClass .boolean ∈ pv_WL := pv_mem (i := 942) (by decide +kernel) rfl
theorem pv_wII : Cond.classLink RX3 21 ("[" ++ (FieldType.array .int).toString) ∈ pv_WL := pv_mem (i := 312) (by decide +kernel) (by decide +kernel)
theorem pv_natW : nativeFrameWords "java/lang/System" "arraycopy" 5 ≤ 60 := by decide
