/-! ===== lists: add, remove ===== -/
/-- a list at b: its array t of M places (M = 0: the empty array that nobody owns), its size z -/
def LX (tc : Nat → ClassId) (S : HS) (b t M z : Nat) : Prop := b ∈ zL S ∧ zK S b = 0 ∧ zP S 1 b = some t ∧ zI S 2 b = nI z ∧ z ≤ M ∧ M < 1000 ∧ (M = 0 ∧ t = tc 100 ∨ 0 < M ∧ t ∈ zL S ∧ zK S t = 23 ∧ zN S t = M)
theorem LX.lo {tc : Nat → ClassId} {S : HS} {b t M z : Nat} (h : LX tc S b t M z) (hM : 0 < M) : LO S b t M z := by
  obtain ⟨h1, h2, h3, h4, h5, h6, h7⟩ := h
  rcases h7 with h7 | ⟨-, h7, h8, h9⟩
  · omega
  · exact ⟨h1, h2, h3, h4, h7, h8, h9, h5, by omega⟩
theorem LX.mc {tc : Nat → ClassId} {S : HS} {b t M z : Nat} (h : LX tc S b t M z) (v : Int32) : LX tc (setI S 0 b v) b t M z := by
  obtain ⟨h1, h2, h3, h4, h5, h6, h7⟩ := h
  refine ⟨h1, h2, h3, ?_, h5, h6, h7⟩
  show up2 (zI S) 0 b v 2 b = nI z
  unfold up2
  rw [if_neg (fun y => absurd y.1 (by decide))]
  exact h4
def grS (S : HS) (b t M r : Nat) : HS := setP (cpA S t M r (gcap M)) 1 b (some r)
theorem cpA_0 (S : HS) (t r N : Nat) : newA S r 23 N = cpA S t 0 r N := by
  unfold cpA setR
  have : va_up (zR (newA S r 23 N)) r (fun i => if i < 0 then zR S t i else none) = zR (newA S r 23 N) := by
    funext x
    by_cases z : x = r
    · subst z
      rw [va_up_self]
      have e : zR (newA S x 23 N) x = fun _ => none := va_up_self _ _ _
      rw [e]
      rfl
    · exact va_up_ne _ _ z
  rw [this]
  rfl
theorem gcap_le {M : Nat} (h : M < 1000) : M < gcap M ∧ gcap M ≤ 2000 := by
  unfold gcap
  split
  · omega
  · split <;> omega
theorem m_growI {l : Launch} {D : va_G} {tc : Nat → ClassId} (hls : l.stackTraces = false) {ci NC : Nat} {C : String} {T : u_T} {ty : Nat → FieldType} (q : CLS ci C T NC ty) (hC : Cond.castable C "java/lang/Object" ∈ WK) {b t M : Nat} {S : HS} {post : Option Value → HS → Prop} (hL : LX tc S b t M M) (hel : ∀ i y, i < M → zR S t i = some y → y ∈ zL S ∧ zK S y = ci) (hp : ∀ r, r ∉ zL S → post (some (.ref r)) (grS S b t M r)) : CM l D tc yJx4a65c_grow_92f84 cJx4a65c_grow_92f84 4 (some (.array (.object "java/lang/Object"))) 3 1 (gcap M) [.ref b, .int (nI (M + 1))] S post := by
  refine CM.of hls (by decide +kernel) (by simp [Value.category]) (Nat.le_of_ble_eq_true rfl) (fun A0 p e9 s m args below meth c sz h hr hnm hA => ?_)
  obtain ⟨h1, h2, h3, h4, h5, h6, h7⟩ := hL
  have hg := gcap_le h6
  refine V.blk h [(.aload_n 0, 1)] (by decide +kernel) (pc' := 1) (ls' := [some (.ref b), some (.int (nI (M + 1))), none, none]) (st' := [.ref b]) rfl rfl (Nat.le_of_ble_eq_true rfl) ?_
  refine V.getP h cls_0 (j := 1) rfl h1 h2 (Or.inl wf_RJx4a65c_9) (by decide +kernel) h3 ?_
  refine V.eq (st' := [.ref t]) rfl rfl rfl ?_
  rcases h7 with ⟨rfl, rfl⟩ | ⟨h7, h8, h9, h10⟩
  · refine V.alenE h (by decide +kernel) ?_
    refine V.blk h [(.istore_n 2, 1), (.iload_n 2, 1)] (by decide +kernel) (pc' := 7) (ls' := [some (.ref b), some (.int (nI (0 + 1))), some (.int (nI 0)), none]) (st' := [.int (nI 0)]) rfl rfl (Nat.le_of_ble_eq_true rfl) ?_
    refine V.if_gt h (off := 13) (by decide +kernel) (tgt := 20) (by decide) (fun z => absurd z (by decide)) (fun _ => ?_)
    refine V.blk h [(.aload_n 0, 1)] (by decide +kernel) (pc' := 11) (ls' := [some (.ref b), some (.int (nI (0 + 1))), some (.int (nI 0)), none]) (st' := [.ref b]) rfl rfl (Nat.le_of_ble_eq_true rfl) ?_
    refine V.getP h cls_0 (j := 1) rfl h1 h2 (Or.inl wf_RJx4a65c_9) (by decide +kernel) h3 ?_
    refine V.eq (st' := [.ref (tc 100)]) rfl rfl rfl ?_
    refine V.getE h wf_RJx4a65c_39 (by decide +kernel) ?_
    refine V.acmp_eq h (rx := some (tc 100)) (ry := some (tc 100)) (off := 28) (by decide +kernel) (tgt := 45) (by decide) (fun _ => ?_) (fun z => absurd rfl z)
    refine V.blk h [(.aload_n 0, 1), (.bipush 10, 2), (.iload_n 1, 1)] (by decide +kernel) (pc' := 49) (ls' := [some (.ref b), some (.int (nI (0 + 1))), some (.int (nI 0)), none]) (st' := [.int (nI (0 + 1)), .int (nI 10), .ref b]) rfl rfl (Nat.le_of_ble_eq_true rfl) ?_
    refine V.mmax h wm_RJx4a65c_79 (v := nI 10) (by decide) (by decide +kernel) (Nat.le_of_ble_eq_true rfl) (Nat.le_of_ble_eq_true rfl) (Nat.zero_le _) (Nat.zero_le _) ?_
    refine V.anewarr h 23 (E := "java/lang/Object") (by decide) rfl h.2.2.2.2.2.1.2.2.2.1.2.2.2.2 wl_RJx4a65c_7 (M := 10) (by omega) (Nat.le_refl _) (by show 0 + 10 ≤ gcap 0; decide) (by decide +kernel) (fun r hr9 => ?_)
    refine V.blk h [(.dup_x1, 1)] (by decide +kernel) (pc' := 56) (ls' := [some (.ref b), some (.int (nI (0 + 1))), some (.int (nI 0)), none]) (st' := [.ref r, .ref b, .ref r]) rfl rfl (Nat.le_of_ble_eq_true rfl) ?_
    have hbr : b ≠ r := fun z => hr9 (z ▸ h1)
    have k1 : b ∈ zL (newA S r 23 10) := List.mem_append_left _ h1
    have k2 : zK (newA S r 23 10) b = 0 := (va_up_ne _ _ hbr).trans h2
    refine V.putP (v := some r) h cls_0 (j := 1) rfl k1 k2 (Or.inl wf_RJx4a65c_9) rfl rfl rfl (by decide +kernel) ?_
    refine V.eq (S' := grS S b (tc 100) 0 r) (by unfold grS; rw [← cpA_0]; rfl) rfl rfl ?_
    exact V.aret h hA hr (o := some r) (Or.inr ⟨_, rfl⟩) (hp r hr9) (by decide +kernel) (Nat.le_refl _) (by show 0 + 10 ≤ gcap 0; decide)
  · refine V.alen h 23 h8 h9 (by decide) h10 (by decide +kernel) ?_
    refine V.blk h [(.istore_n 2, 1), (.iload_n 2, 1)] (by decide +kernel) (pc' := 7) (ls' := [some (.ref b), some (.int (nI (M + 1))), some (.int (nI M)), none]) (st' := [.int (nI M)]) rfl rfl (Nat.le_of_ble_eq_true rfl) ?_
    refine V.if_gt h (off := 13) (by decide +kernel) (tgt := 20) (by decide) (fun _ => ?_) (fun z => absurd ((nI_z_gt (by omega)).mpr h7) z)
    refine V.blk h [(.iload_n 2, 1), (.iload_n 1, 1), (.iload_n 2, 1), (.isub, 1), (.iload_n 2, 1), (.iconst 1, 1)] (by decide +kernel) (pc' := 26) (ls' := [some (.ref b), some (.int (nI (M + 1))), some (.int (nI M)), none]) (st' := [.int (kI 1), .int (nI M), .int (nI (M + 1) - nI M), .int (nI M)]) rfl rfl (Nat.le_of_ble_eq_true rfl) ?_
    refine V.ishr1 h (ish1 (by omega)) (by decide +kernel) ?_
    refine V.eq (st' := [.int (nI (M / 2)), .int (nI 1), .int (nI M)]) rfl rfl (by rw [pk_sub (show M ≤ M + 1 by omega), show M + 1 - M = 1 by omega]) ?_
    refine V.callS h (np := 3) (st := []) (m_newLength hls h7 (by omega) (post := fun v S9 => v = some (.int (nI (gcap M))) ∧ S = S9) ⟨rfl, rfl⟩) wc_J8_newLength_cabcc wn_RJ8 (Or.inl wm_RJx4a65c_73) wt_J8_newLength_cabcc (by decide +kernel) rfl (Nat.le_of_ble_eq_true rfl) (Nat.le_of_ble_eq_true rfl) (Nat.zero_le _) (Nat.zero_le _) (by simp [Value.category]) (by decide +kernel) rfl (fun v S9 q9 => ?_)
    obtain ⟨rfl, hS9⟩ := q9
    subst hS9
    refine V.blk h [(.istore_n 3, 1), (.aload_n 0, 1), (.aload_n 0, 1)] (by decide +kernel) (pc' := 33) (ls' := [some (.ref b), some (.int (nI (M + 1))), some (.int (nI M)), some (.int (nI (gcap M)))]) (st' := [.ref b, .ref b]) rfl rfl (Nat.le_of_ble_eq_true rfl) ?_
    refine V.getP h cls_0 (j := 1) rfl h1 h2 (Or.inl wf_RJx4a65c_9) (by decide +kernel) h3 ?_
    refine V.eq (st' := [.ref t, .ref b]) rfl rfl rfl ?_
    refine V.blk h [(.iload_n 3, 1)] (by decide +kernel) (pc' := 37) (ls' := [some (.ref b), some (.int (nI (M + 1))), some (.int (nI M)), some (.int (nI (gcap M)))]) (st' := [.int (nI (gcap M)), .ref t, .ref b]) rfl rfl (Nat.le_of_ble_eq_true rfl) ?_
    refine V.callS h (np := 2) (st := [.ref b]) (m_copyOf2 hls q hC h8 h9 h10 (by omega) hg.2 hel (post := fun v S9 => ∃ r, r ∉ zL S ∧ v = some (.ref r) ∧ S9 = cpA S t M r (gcap M)) (fun r h9 => ⟨r, h9, rfl, rfl⟩)) wc_J7_copyOf_1904c wn_RJ7 (Or.inl wm_RJx4a65c_66) wt_J7_copyOf_1904c (by decide +kernel) rfl (Nat.le_of_ble_eq_true rfl) (Nat.le_of_ble_eq_true rfl) (Nat.le_refl _) (by show 0 + 0 + gcap M ≤ gcap M; omega) (by simp [Value.category]) (by decide +kernel) rfl (fun v S9 q9 => ?_)
    obtain ⟨r, hr9, rfl, rfl⟩ := q9
    refine V.eq (st' := [.ref r, .ref b]) rfl rfl rfl ?_
    refine V.blk h [(.dup_x1, 1)] (by decide +kernel) (pc' := 41) (ls' := [some (.ref b), some (.int (nI (M + 1))), some (.int (nI M)), some (.int (nI (gcap M)))]) (st' := [.ref r, .ref b, .ref r]) rfl rfl (Nat.le_of_ble_eq_true rfl) ?_
    have hbr : b ≠ r := fun z => hr9 (z ▸ h1)
    have k1 : b ∈ zL (cpA S t M r (gcap M)) := List.mem_append_left _ h1
    have k2 : zK (cpA S t M r (gcap M)) b = 0 := (va_up_ne _ _ hbr).trans h2
    refine V.putP (v := some r) h cls_0 (j := 1) rfl k1 k2 (Or.inl wf_RJx4a65c_9) rfl rfl rfl (by decide +kernel) ?_
    exact V.aret h hA hr (o := some r) (Or.inr ⟨_, rfl⟩) (hp r hr9) (by decide +kernel) (by decide) (by show 0 + 0 + gcap M ≤ gcap M; omega)
theorem m_grow {l : Launch} {D : va_G} {tc : Nat → ClassId} (hls : l.stackTraces = false) {ci NC : Nat} {C : String} {T : u_T} {ty : Nat → FieldType} (q : CLS ci C T NC ty) (hC : Cond.castable C "java/lang/Object" ∈ WK) {b t M : Nat} {S : HS} {post : Option Value → HS → Prop} (hL : LX tc S b t M M) (hel : ∀ i y, i < M → zR S t i = some y → y ∈ zL S ∧ zK S y = ci) (hp : ∀ r, r ∉ zL S → post (some (.ref r)) (grS S b t M r)) : CM l D tc yJx4a65c_grow_d5877 cJx4a65c_grow_d5877 1 (some (.array (.object "java/lang/Object"))) 4 1 (gcap M) [.ref b] S post := by
  refine CM.of hls (by decide +kernel) (by simp [Value.category]) (Nat.le_of_ble_eq_true rfl) (fun A0 p e9 s m args below meth c sz h hr hnm hA => ?_)
  refine V.blk h [(.aload_n 0, 1), (.aload_n 0, 1)] (by decide +kernel) (pc' := 2) (ls' := [some (.ref b)]) (st' := [.ref b, .ref b]) rfl rfl (Nat.le_of_ble_eq_true rfl) ?_
  refine V.getI h cls_0 (j := 2) rfl hL.1 hL.2.1 (Or.inl wf_RJx4a65c_48) (by decide +kernel) hL.2.2.2.1 ?_
  refine V.blk h [(.iconst 1, 1), (.iadd, 1)] (by decide +kernel) (pc' := 7) (ls' := [some (.ref b)]) (st' := [.int (nI M + kI 1), .ref b]) rfl rfl (Nat.le_of_ble_eq_true rfl) ?_
  refine V.eq (st' := [.int (nI (M + 1)), .ref b]) rfl rfl (by rw [show kI 1 = nI 1 by decide, nI_add]) ?_
  refine V.callV h (np := 1) (st := []) (m_growI hls q hC hL hel (post := fun v S9 => ∃ r, r ∉ zL S ∧ v = some (.ref r) ∧ S9 = grS S b t M r) (fun r h9 => ⟨r, h9, rfl, rfl⟩)) wc_Jx4a65c_grow_92f84 wn_RJx4a65c (Or.inl wm_RJx4a65c_69) wi_Jx4a65c_grow_92f84 we_Jx4a65c_grow_92f84 (by decide +kernel) rfl cls_0 hL.1 hL.2.1 (Nat.le_of_ble_eq_true rfl) (Nat.le_of_ble_eq_true rfl) (Nat.le_refl _) (by show 0 + gcap M ≤ gcap M; omega) (by simp [Value.category]) (by decide +kernel) rfl (fun v S9 q9 => ?_)
  obtain ⟨r, hr9, rfl, rfl⟩ := q9
  refine V.sub (ls' := [some (.ref b)]) (fun _ _ z => z) ?_
  exact V.aret h hA hr (o := some r) (Or.inr ⟨_, rfl⟩) (hp r hr9) (by decide +kernel) (by decide) (by show 0 + gcap M ≤ gcap M; omega)
