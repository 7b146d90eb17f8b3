/-! the instruction is monotone in what follows; so a frame is what its step makes of it -/
theorem pv_i1_m {st : List Value} {K K' : Int32 → List Value → Prop} (h : ∀ a r, K a r → K' a r) : pv_i1 st K → pv_i1 st K' := by
  unfold pv_i1; split
  · exact h _ _
  · exact id
theorem pv_i2_m {st : List Value} {K K' : Int32 → Int32 → List Value → Prop} (h : ∀ a b r, K a b r → K' a b r) : pv_i2 st K → pv_i2 st K' := by
  unfold pv_i2; split
  · exact h _ _ _
  · exact id
theorem pv_l1_m {st : List Value} {K K' : Int64 → List Value → Prop} (h : ∀ a r, K a r → K' a r) : pv_l1 st K → pv_l1 st K' := by
  unfold pv_l1; split
  · exact h _ _
  · exact id
theorem pv_l2_m {st : List Value} {K K' : Int64 → Int64 → List Value → Prop} (h : ∀ a b r, K a b r → K' a b r) : pv_l2 st K → pv_l2 st K' := by
  unfold pv_l2; split
  · exact h _ _ _
  · exact id
theorem pv_li_m {st : List Value} {K K' : Int64 → Int32 → List Value → Prop} (h : ∀ a b r, K a b r → K' a b r) : pv_li st K → pv_li st K' := by
  unfold pv_li; split
  · exact h _ _ _
  · exact id
theorem pv_r1_m {st : List Value} {K K' : Nat → List Value → Prop} (h : ∀ a r, K a r → K' a r) : pv_r1 st K → pv_r1 st K' := by
  unfold pv_r1; split
  · exact h _ _
  · exact id
theorem pv_ri_m {st : List Value} {K K' : Nat → Int32 → List Value → Prop} (h : ∀ a b r, K a b r → K' a b r) : pv_ri st K → pv_ri st K' := by
  unfold pv_ri; split
  · exact h _ _ _
  · exact id
theorem pv_rii_m {st : List Value} {K K' : Nat → Int32 → Int32 → List Value → Prop} (h : ∀ a b c r, K a b c r → K' a b c r) : pv_rii st K → pv_rii st K' := by
  unfold pv_rii; split
  · exact h _ _ _ _
  · exact id
theorem pv_rir_m {st : List Value} {K K' : Nat → Int32 → Nat → List Value → Prop} (h : ∀ a b c r, K a b c r → K' a b c r) : pv_rir st K → pv_rir st K' := by
  unfold pv_rir; split
  · exact h _ _ _ _
  · exact id
theorem pv_v1_m {st : List Value} {K K' : Value → List Value → Prop} (h : ∀ a r, K a r → K' a r) : pv_v1 st K → pv_v1 st K' := by
  unfold pv_v1; split
  · exact h _ _
  · exact id
theorem pv_v2_m {st : List Value} {K K' : Value → Value → List Value → Prop} (h : ∀ a b r, K a b r → K' a b r) : pv_v2 st K → pv_v2 st K' := by
  unfold pv_v2; split
  · exact h _ _ _
  · exact id
theorem pv_vr_m {st : List Value} {K K' : Value → Nat → List Value → Prop} (h : ∀ a b r, K a b r → K' a b r) : pv_vr st K → pv_vr st K' := by
  unfold pv_vr; split
  · exact h _ _ _
  · exact id
theorem pv_ac_m {st : List Value} {K K' : Nat → Int32 → Nat → Int32 → Int32 → List Value → Prop} (h : ∀ a b c d e r, K a b c d e r → K' a b c d e r) : pv_ac st K → pv_ac st K' := by
  unfold pv_ac; split
  · exact h _ _ _ _ _ _
  · exact id
theorem pv_li1_m {ls : PvL} {k : Nat} {K K' : Int32 → Prop} (h : ∀ a, K a → K' a) : pv_li1 ls k K → pv_li1 ls k K' := by
  unfold pv_li1; split
  · exact h _
  · exact id
theorem pv_ll1_m {ls : PvL} {k : Nat} {K K' : Int64 → Prop} (h : ∀ a, K a → K' a) : pv_ll1 ls k K → pv_ll1 ls k K' := by
  unfold pv_ll1; split
  · exact h _
  · exact id
theorem pv_lr1_m {ls : PvL} {k : Nat} {K K' : Nat → Prop} (h : ∀ a, K a → K' a) : pv_lr1 ls k K → pv_lr1 ls k K' := by
  unfold pv_lr1; split
  · exact h _
  · exact id
theorem pv_go_m {pc : Nat} {off : Int} {K K' : Nat → Prop} (h : ∀ t, K t → K' t) : pv_go pc off K → pv_go pc off K' := fun q => ⟨q.1, h _ q.2⟩
section MO
variable {call call' : PvC} {mc ms : Nat} {X Y : PvX} (hX : ∀ pc ls st cs ss g h, X pc ls st cs ss g h → Y pc ls st cs ss g h) (hc : ∀ y As g h Q Q', (∀ v g h, Q v g h → Q' v g h) → call y As g h Q → call' y As g h Q')
theorem pv_ca_m (hX : ∀ pc ls st cs ss g h, X pc ls st cs ss g h → Y pc ls st cs ss g h) (hc : ∀ y As g h Q Q', (∀ v g h, Q v g h → Q' v g h) → call y As g h Q → call' y As g h Q') {pc : Nat} {ls : PvL} {cs ss : Nat} {g : PvG} {h : PvH} {y : Nat} {As rest : List Value} : pv_ca call mc ms X pc ls cs ss g h y As rest → pv_ca call' mc ms Y pc ls cs ss g h y As rest := fun q => ⟨q.1, q.2.1, q.2.2.1, hc _ _ _ _ _ _ (fun v g h => hX _ _ _ _ _ _ _) q.2.2.2⟩
theorem pv_cv_m (hX : ∀ pc ls st cs ss g h, X pc ls st cs ss g h → Y pc ls st cs ss g h) (hc : ∀ y As g h Q Q', (∀ v g h, Q v g h → Q' v g h) → call y As g h Q → call' y As g h Q') {pc : Nat} {ls : PvL} {st : List Value} {cs ss : Nat} {g : PvG} {h : PvH} {y : Nat} : pv_cv call mc ms X pc ls st cs ss g h y → pv_cv call' mc ms Y pc ls st cs ss g h y := fun q => ⟨q.1, pv_r1_m (fun a r q => ⟨q.1, pv_ca_m hX hc q.2⟩) q.2⟩
theorem pv_ci_m (hX : ∀ pc ls st cs ss g h, X pc ls st cs ss g h → Y pc ls st cs ss g h) (hc : ∀ y As g h Q Q', (∀ v g h, Q v g h → Q' v g h) → call y As g h Q → call' y As g h Q') {pc : Nat} {ls : PvL} {st : List Value} {cs ss : Nat} {g : PvG} {h : PvH} {y : Nat} : pv_ci call mc ms X pc ls st cs ss g h y → pv_ci call' mc ms Y pc ls st cs ss g h y := fun q => ⟨q.1, pv_r1_m (fun a r q => pv_ca_m hX hc q) q.2⟩
theorem pv_cs_m (hX : ∀ pc ls st cs ss g h, X pc ls st cs ss g h → Y pc ls st cs ss g h) (hc : ∀ y As g h Q Q', (∀ v g h, Q v g h → Q' v g h) → call y As g h Q → call' y As g h Q') {pc : Nat} {ls : PvL} {st : List Value} {cs ss : Nat} {g : PvG} {h : PvH} {y : Nat} : pv_cs call mc ms X pc ls st cs ss g h y → pv_cs call' mc ms Y pc ls st cs ss g h y := fun q => ⟨q.1, pv_ca_m hX hc q.2⟩
end MO
set_option maxHeartbeats 4000000 in
theorem pv_sem_m {call call' : PvC} {own : Nat} {ini : Bool} {rt : Option FieldType} {mc ms : Nat} {P P' : PvP} {sc : Option (Nat × (Nat → Int32))} {X Y : PvX} (hX : ∀ pc ls st cs ss g h, X pc ls st cs ss g h → Y pc ls st cs ss g h) (hP : ∀ v g h, P v g h → P' v g h) (hc : ∀ y As g h Q Q', (∀ v g h, Q v g h → Q' v g h) → call y As g h Q → call' y As g h Q')
    {i : Instr} {n pc : Nat} {ls : PvL} {st : List Value} {cs ss : Nat} {g : PvG} {h : PvH} : pv_sem (call, own, ini, rt, mc, ms, P, sc) X i n pc ls st cs ss g h → pv_sem (call', own, ini, rt, mc, ms, P', sc) Y i n pc ls st cs ss g h := by
  intro h0
  cases i <;> simp only [pv_sem] at h0 ⊢
  case iconst => exact ⟨h0.1, hX _ _ _ _ _ _ _ h0.2⟩
  case bipush => exact ⟨h0.1, hX _ _ _ _ _ _ _ h0.2⟩
  case sipush => exact ⟨h0.1, hX _ _ _ _ _ _ _ h0.2⟩
  case lconst => exact ⟨h0.1, hX _ _ _ _ _ _ _ h0.2⟩
  case iload_n => exact ⟨h0.1, pv_li1_m (fun _ => hX _ _ _ _ _ _ _) h0.2⟩
  case iload => exact ⟨h0.1, pv_li1_m (fun _ => hX _ _ _ _ _ _ _) h0.2⟩
  case lload_n => exact ⟨h0.1, pv_ll1_m (fun _ => hX _ _ _ _ _ _ _) h0.2⟩
  case lload => exact ⟨h0.1, pv_ll1_m (fun _ => hX _ _ _ _ _ _ _) h0.2⟩
  case aload_n => exact ⟨h0.1, pv_lr1_m (fun _ => hX _ _ _ _ _ _ _) h0.2⟩
  case aload => exact ⟨h0.1, pv_lr1_m (fun _ => hX _ _ _ _ _ _ _) h0.2⟩
  case istore_n => exact ⟨h0.1, h0.2.1, h0.2.2.1, pv_i1_m (fun _ _ => hX _ _ _ _ _ _ _) h0.2.2.2⟩
  case istore => exact ⟨h0.1, h0.2.1, h0.2.2.1, pv_i1_m (fun _ _ => hX _ _ _ _ _ _ _) h0.2.2.2⟩
  case lstore_n => exact ⟨h0.1, h0.2.1, h0.2.2.1, pv_l1_m (fun _ _ => hX _ _ _ _ _ _ _) h0.2.2.2⟩
  case lstore => exact ⟨h0.1, h0.2.1, h0.2.2.1, pv_l1_m (fun _ _ => hX _ _ _ _ _ _ _) h0.2.2.2⟩
  case astore_n => exact ⟨h0.1, h0.2.1, h0.2.2.1, pv_r1_m (fun _ _ => hX _ _ _ _ _ _ _) h0.2.2.2⟩
  case astore => exact ⟨h0.1, h0.2.1, h0.2.2.1, pv_r1_m (fun _ _ => hX _ _ _ _ _ _ _) h0.2.2.2⟩
  case iinc => exact ⟨h0.1, h0.2.1, h0.2.2.1, pv_li1_m (fun _ => hX _ _ _ _ _ _ _) h0.2.2.2⟩
  case iadd => exact ⟨h0.1, pv_i2_m (fun _ _ _ => hX _ _ _ _ _ _ _) h0.2⟩
  case isub => exact ⟨h0.1, pv_i2_m (fun _ _ _ => hX _ _ _ _ _ _ _) h0.2⟩
  case imul => exact ⟨h0.1, pv_i2_m (fun _ _ _ => hX _ _ _ _ _ _ _) h0.2⟩
  case iand => exact ⟨h0.1, pv_i2_m (fun _ _ _ => hX _ _ _ _ _ _ _) h0.2⟩
  case ior => exact ⟨h0.1, pv_i2_m (fun _ _ _ => hX _ _ _ _ _ _ _) h0.2⟩
  case ixor => exact ⟨h0.1, pv_i2_m (fun _ _ _ => hX _ _ _ _ _ _ _) h0.2⟩
  case idiv => exact ⟨h0.1, pv_i2_m (fun _ _ _ q => ⟨q.1, hX _ _ _ _ _ _ _ q.2⟩) h0.2⟩
  case irem => exact ⟨h0.1, pv_i2_m (fun _ _ _ q => ⟨q.1, hX _ _ _ _ _ _ _ q.2⟩) h0.2⟩
  case ishl => exact ⟨h0.1, pv_i2_m (fun _ _ _ => hX _ _ _ _ _ _ _) h0.2⟩
  case ishr => exact ⟨h0.1, pv_i2_m (fun _ _ _ => hX _ _ _ _ _ _ _) h0.2⟩
  case iushr => exact ⟨h0.1, pv_i2_m (fun _ _ _ => hX _ _ _ _ _ _ _) h0.2⟩
  case ladd => exact ⟨h0.1, pv_l2_m (fun _ _ _ => hX _ _ _ _ _ _ _) h0.2⟩
  case lsub => exact ⟨h0.1, pv_l2_m (fun _ _ _ => hX _ _ _ _ _ _ _) h0.2⟩
  case lmul => exact ⟨h0.1, pv_l2_m (fun _ _ _ => hX _ _ _ _ _ _ _) h0.2⟩
  case land => exact ⟨h0.1, pv_l2_m (fun _ _ _ => hX _ _ _ _ _ _ _) h0.2⟩
  case lor => exact ⟨h0.1, pv_l2_m (fun _ _ _ => hX _ _ _ _ _ _ _) h0.2⟩
  case ldiv => exact ⟨h0.1, pv_l2_m (fun _ _ _ q => ⟨q.1, hX _ _ _ _ _ _ _ q.2⟩) h0.2⟩
  case lrem => exact ⟨h0.1, pv_l2_m (fun _ _ _ q => ⟨q.1, hX _ _ _ _ _ _ _ q.2⟩) h0.2⟩
  case lshl => exact ⟨h0.1, pv_li_m (fun _ _ _ => hX _ _ _ _ _ _ _) h0.2⟩
  case lshr => exact ⟨h0.1, pv_li_m (fun _ _ _ => hX _ _ _ _ _ _ _) h0.2⟩
  case lushr => exact ⟨h0.1, pv_li_m (fun _ _ _ => hX _ _ _ _ _ _ _) h0.2⟩
  case lcmp => exact ⟨h0.1, pv_l2_m (fun _ _ _ => hX _ _ _ _ _ _ _) h0.2⟩
  case i2l => exact ⟨h0.1, pv_i1_m (fun _ _ => hX _ _ _ _ _ _ _) h0.2⟩
  case l2i => exact ⟨h0.1, pv_l1_m (fun _ _ => hX _ _ _ _ _ _ _) h0.2⟩
  case dup => exact ⟨h0.1, pv_v1_m (fun _ _ q => ⟨q.1, hX _ _ _ _ _ _ _ q.2⟩) h0.2⟩
  case dup2 => exact ⟨h0.1, pv_v2_m (fun _ _ _ q => ⟨q.1, q.2.1, hX _ _ _ _ _ _ _ q.2.2⟩) h0.2⟩
  case ldc k =>
    refine ⟨h0.1, ?_⟩
    have h2 := h0.2
    cases hq : pv_kc own k with
    | none => rw [hq] at h2; exact h2.elim
    | some e => rw [hq] at h2; exact hX _ _ _ _ _ _ _ h2
  case ldc_w k =>
    refine ⟨h0.1, ?_⟩
    have h2 := h0.2
    cases hq : pv_kc own k with
    | none => rw [hq] at h2; exact h2.elim
    | some e => rw [hq] at h2; exact hX _ _ _ _ _ _ _ h2
  case ldc2_w k =>
    refine ⟨h0.1, ?_⟩
    have h2 := h0.2
    cases hq : pv_kl own k with
    | none => rw [hq] at h2; exact h2.elim
    | some e => rw [hq] at h2; exact hX _ _ _ _ _ _ _ h2
  case ifCond => exact ⟨h0.1, pv_i1_m (fun _ _ => pv_go_m fun _ q => ⟨fun c => hX _ _ _ _ _ _ _ (q.1 c), fun c => hX _ _ _ _ _ _ _ (q.2 c)⟩) h0.2⟩
  case if_icmp => exact ⟨h0.1, pv_i2_m (fun _ _ _ => pv_go_m fun _ q => ⟨fun c => hX _ _ _ _ _ _ _ (q.1 c), fun c => hX _ _ _ _ _ _ _ (q.2 c)⟩) h0.2⟩
  case goto => exact ⟨h0.1, pv_go_m (fun _ => hX _ _ _ _ _ _ _) h0.2⟩
  case tableswitch d lo hi offs =>
    refine pv_i1_m (fun x r q => ⟨fun c => pv_go_m (fun _ => hX _ _ _ _ _ _ _) (q.1 c), fun k c1 c2 => ?_⟩) h0
    have h2 := q.2 k c1 c2
    cases hq : offs[k]? with
    | none => rw [hq] at h2; exact h2.elim
    | some e => rw [hq] at h2; exact pv_go_m (fun _ => hX _ _ _ _ _ _ _) h2
  case getfield k =>
    refine ⟨h0.1, ?_⟩
    have h2 := h0.2
    cases hq : pv_fl own k with
    | none => rw [hq] at h2; exact h2.elim
    | some e => rw [hq] at h2; exact pv_r1_m (fun _ _ q => ⟨q.1, hX _ _ _ _ _ _ _ q.2⟩) h2
  case putfield k =>
    refine ⟨h0.1, ?_⟩
    have h2 := h0.2
    cases hq : pv_fl own k with
    | none => rw [hq] at h2; exact h2.elim
    | some e =>
      rw [hq] at h2
      refine ⟨h2.1, pv_vr_m (fun v o r q => ⟨q.1, ?_⟩) h2.2⟩
      have h3 := q.2
      cases v <;> first | exact h3.elim | exact ⟨h3.1, hX _ _ _ _ _ _ _ h3.2⟩
  case iaload =>
    refine ⟨h0.1, pv_ri_m (fun a i r q => ?_) h0.2⟩
    cases sc with
    | none => exact ⟨q.1, q.2.1, hX _ _ _ _ _ _ _ q.2.2⟩
    | some s => exact ⟨q.1, q.2.1, hX _ _ _ _ _ _ _ q.2.2⟩
  case iastore => exact ⟨h0.1, pv_rii_m (fun _ _ _ _ q => ⟨q.1, q.2.1, hX _ _ _ _ _ _ _ q.2.2⟩) h0.2⟩
  case baload => exact ⟨h0.1, pv_ri_m (fun _ _ _ q => ⟨q.1, q.2.1, hX _ _ _ _ _ _ _ q.2.2⟩) h0.2⟩
  case bastore => exact ⟨h0.1, pv_rii_m (fun _ _ _ _ q => ⟨q.1, q.2.1, q.2.2.1, hX _ _ _ _ _ _ _ q.2.2.2⟩) h0.2⟩
  case aaload => exact ⟨h0.1, pv_ri_m (fun _ _ _ q => ⟨q.1, q.2.1, hX _ _ _ _ _ _ _ q.2.2⟩) h0.2⟩
  case aastore => exact ⟨h0.1, pv_rir_m (fun _ _ _ _ q => ⟨q.1, q.2.1, q.2.2.1, hX _ _ _ _ _ _ _ q.2.2.2⟩) h0.2⟩
  case arraylength =>
    refine ⟨h0.1, pv_r1_m (fun a r q => ?_) h0.2⟩
    cases sc with
    | none => exact ⟨q.1, hX _ _ _ _ _ _ _ q.2⟩
    | some s => exact ⟨q.1, hX _ _ _ _ _ _ _ q.2⟩
  case new k =>
    refine ⟨h0.1, ?_⟩
    have h2 := h0.2
    cases hq : pv_nw own k with
    | none => rw [hq] at h2; exact h2.elim
    | some e => rw [hq] at h2; exact ⟨h2.1, h2.2.1, h2.2.2.1, hX _ _ _ _ _ _ _ h2.2.2.2⟩
  case newarray t =>
    refine ⟨h0.1, pv_i1_m (fun c r q => ⟨q.1, q.2.1, q.2.2.1, q.2.2.2.1, q.2.2.2.2.1, ?_⟩) h0.2⟩
    have h3 := q.2.2.2.2.2
    cases t <;> first | exact h3.elim | exact hX _ _ _ _ _ _ _ h3
  case anewarray => exact ⟨h0.1, h0.2.1, h0.2.2.1, pv_i1_m (fun _ _ q => ⟨q.1, q.2.1, q.2.2.1, q.2.2.2.1, q.2.2.2.2.1, hX _ _ _ _ _ _ _ q.2.2.2.2.2⟩) h0.2.2.2⟩
  case multianewarray => exact ⟨h0.1, h0.2.1, h0.2.2.1, h0.2.2.2.1, pv_i2_m (fun _ _ _ q => ⟨q.1, q.2.1, q.2.2.1, q.2.2.2.1, q.2.2.2.2.1, q.2.2.2.2.2.1, hX _ _ _ _ _ _ _ q.2.2.2.2.2.2⟩) h0.2.2.2.2⟩
  case invokevirtual k =>
    refine ⟨h0.1, ?_⟩
    have h2 := h0.2
    cases hq : pv_ml own k with
    | none => rw [hq] at h2; exact h2.elim
    | some e => rw [hq] at h2; exact ⟨h2.1, pv_cv_m hX hc h2.2⟩
  case invokespecial k =>
    refine ⟨h0.1, ?_⟩
    have h2 := h0.2
    cases hq : pv_ml own k with
    | none => rw [hq] at h2; exact h2.elim
    | some e =>
      rw [hq] at h2
      exact h2.imp (fun q => ⟨q.1, pv_r1_m (fun _ _ z => ⟨z.1, hX _ _ _ _ _ _ _ z.2⟩) q.2⟩) (fun q => ⟨q.1, pv_ci_m hX hc q.2⟩)
  case invokestatic k =>
    refine ⟨h0.1, ?_⟩
    have h2 := h0.2
    cases hq : pv_ml own k with
    | none => rw [hq] at h2; exact h2.elim
    | some e =>
      rw [hq] at h2
      exact h2.imp (fun q => ⟨q.1, pv_i2_m (fun _ _ _ z => ⟨z.1, hX _ _ _ _ _ _ _ z.2⟩) q.2⟩) (fun q => q.imp (fun q => ⟨q.1, pv_ac_m (fun _ _ _ _ _ _ z => ⟨z.1, z.2.1, z.2.2.1, z.2.2.2.1, z.2.2.2.2.1, z.2.2.2.2.2.1, z.2.2.2.2.2.2.1, z.2.2.2.2.2.2.2.1, hX _ _ _ _ _ _ _ z.2.2.2.2.2.2.2.2⟩) q.2⟩) (fun q => ⟨q.1, pv_cs_m hX hc q.2⟩))
  case ireturn => exact ⟨h0.1, pv_i1_m (fun _ _ q => ⟨q.1, q.2.1, q.2.2.1, q.2.2.2.1, hP _ _ _ q.2.2.2.2⟩) h0.2⟩
  case lreturn => exact ⟨h0.1, pv_l1_m (fun _ _ q => ⟨q.1, q.2.1, q.2.2.1, q.2.2.2.1, hP _ _ _ q.2.2.2.2⟩) h0.2⟩
  case return_ => exact ⟨h0.1, h0.2.1, h0.2.2.1, h0.2.2.2.1, h0.2.2.2.2.1, hP _ _ _ h0.2.2.2.2.2⟩
theorem pv_stp_m {call call' : PvC} {own : Nat} {ini : Bool} {rt : Option FieldType} {mc ms : Nat} {P P' : PvP} {sc : Option (Nat × (Nat → Int32))} {X Y : PvX} {b : ByteArray} (hX : ∀ pc ls st cs ss g h, X pc ls st cs ss g h → Y pc ls st cs ss g h) (hP : ∀ v g h, P v g h → P' v g h) (hc : ∀ y As g h Q Q', (∀ v g h, Q v g h → Q' v g h) → call y As g h Q → call' y As g h Q')
    {pc : Nat} {ls : PvL} {st : List Value} {cs ss : Nat} {g : PvG} {h : PvH} : pv_stp (call, own, ini, rt, mc, ms, P, sc) b X pc ls st cs ss g h → pv_stp (call', own, ini, rt, mc, ms, P', sc) b Y pc ls st cs ss g h := by
  unfold pv_stp
  split
  · exact pv_sem_m hX hP hc
  · exact id
/-- what is owed may be weakened, in a call of any depth -/
theorem pv_run_m : ∀ (d : Nat) (y : Nat) (As : List Value) (g : PvG) (h : PvH) (Q Q' : PvP), (∀ v g h, Q v g h → Q' v g h) → pv_run d y As g h Q → pv_run d y As g h Q'
  | 0, _, _, _, _, _, _, _ => id
  | d + 1, y, As, g, h, Q, Q', hq => fun q => ⟨q.1, q.2.1, fun X hx => q.2.2 X fun pc ls st cs ss g h z => hx _ _ _ _ _ _ _ (pv_stp_m (fun _ _ _ _ _ _ _ => id) hq (pv_run_m d) z)⟩
theorem pv_run_s : ∀ (d : Nat) (y : Nat) (As : List Value) (g : PvG) (h : PvH) (Q Q' : PvP), (∀ v g h, Q v g h → Q' v g h) → pv_run d y As g h Q → pv_run (d + 1) y As g h Q'
  | 0, _, _, _, _, _, _, _ => False.elim
  | d + 1, y, As, g, h, Q, Q', hq => fun q => ⟨q.1, q.2.1, fun X hx => q.2.2 X fun pc ls st cs ss g h z => hx _ _ _ _ _ _ _ (pv_stp_m (fun _ _ _ _ _ _ _ => id) hq (pv_run_s d) z)⟩
/-- a deeper room does what a smaller one does -/
theorem pv_run_le {d e : Nat} (hde : d ≤ e) {y : Nat} {As : List Value} {g : PvG} {h : PvH} {Q : PvP} (q : pv_run d y As g h Q) : pv_run e y As g h Q := by
  induction hde with
  | refl => exact q
  | step _ ih => exact pv_run_s _ _ _ _ _ _ _ (fun _ _ _ => id) ih
/-- a call below a frame: what is owed may be weakened -/
def pv_cm (call : PvC) : Prop := ∀ y As g h Q Q', (∀ v g h, Q v g h → Q' v g h) → call y As g h Q → call y As g h Q'
theorem pv_Ev_eq {q : PvQ} {b : ByteArray} (hc : pv_cm q.1) {pc : Nat} {ls : PvL} {st : List Value} {cs ss : Nat} {g : PvG} {h : PvH} : pv_Ev q b pc ls st cs ss g h = pv_stp q b (pv_Ev q b) pc ls st cs ss g h := by
  obtain ⟨call, own, ini, rt, mc, ms, P, sc⟩ := q
  have up : ∀ pc ls st cs ss g h, pv_stp (call, own, ini, rt, mc, ms, P, sc) b (pv_Ev (call, own, ini, rt, mc, ms, P, sc) b) pc ls st cs ss g h → pv_Ev (call, own, ini, rt, mc, ms, P, sc) b pc ls st cs ss g h :=
    fun pc ls st cs ss g h z X hx => hx _ _ _ _ _ _ _ (pv_stp_m (fun _ _ _ _ _ _ _ k => k X hx) (fun _ _ _ => id) hc z)
  exact propext ⟨fun k => k _ fun pc ls st cs ss g h z => pv_stp_m up (fun _ _ _ => id) hc z, up _ _ _ _ _ _ _⟩
