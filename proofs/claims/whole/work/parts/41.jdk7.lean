/-! ===== lists: add, remove, clear ===== -/
def adS (S : HS) (b t a z : Nat) : HS := setI (setR S t (va_up (zR S t) z (some a))) 2 b (nI (z + 1))
theorem LX.grow {tc : Nat → ClassId} {S : HS} {b t M r : Nat} (h : LX tc S b t M M) (hr : r ∉ zL S) : b ∈ zL (grS S b t M r) ∧ zK (grS S b t M r) b = 0 ∧ r ∈ zL (grS S b t M r) ∧ zK (grS S b t M r) r = 23 ∧ zN (grS S b t M r) r = gcap M := by
  obtain ⟨h1, h2, h3, h4, h5, h6, h7⟩ := h
  have hbr : b ≠ r := fun z => hr (z ▸ h1)
  exact ⟨List.mem_append_left _ h1, (va_up_ne _ _ hbr).trans h2, List.mem_append_right _ (List.mem_singleton.mpr rfl), va_up_self _ _ _, va_up_self _ _ _⟩
theorem m_add3 {l : Launch} {D : va_G} {tc : Nat → ClassId} (hls : l.stackTraces = false) {ci NC : Nat} {C : String} {T : u_T} {ty : Nat → FieldType} (q : CLS ci C T NC ty) (hC : Cond.castable C "java/lang/Object" ∈ WK) {b t M z a mc ms : Nat} {S : HS} {post : Option Value → HS → Prop} (hL : LX tc S b t M z) (hel : ∀ i y, i < z → zR S t i = some y → y ∈ zL S ∧ zK S y = ci) (ha : a ∈ zL S) (hka : zK S a = ci) (hmc : z = M → 1 ≤ mc) (hms : z = M → gcap M ≤ ms) (hp1 : z < M → post none (adS S b t a z)) (hp2 : z = M → ∀ r, r ∉ zL S → post none (adS (grS S b t M r) b r a z)) : CM l D tc yJx4a65c_add_72be8 cJx4a65c_add_72be8 4 none 5 mc ms [.ref b, .ref a, .ref t, .int (nI z)] S post := by
  refine CM.of hls (by decide +kernel) (by simp [Value.category]) (Nat.le_of_ble_eq_true rfl) (fun A0 p e9 s m args below meth c sz h hr hnm hA => ?_)
  have hM := hL.2.2.2.2.2.1
  have hzM := hL.2.2.2.2.1
  have tail : ∀ (S1 : HS) (t1 M1 k n : Nat), b ∈ zL S1 → zK S1 b = 0 → t1 ∈ zL S1 → zK S1 t1 = 23 → zN S1 t1 = M1 → z < M1 → M1 < 2 ^ 31 → a ∈ zL S1 → zK S1 a = ci → k ≤ mc → n ≤ ms → post none (adS S1 b t1 a z) → V l D tc A0 p e9 (rmd 5 mc ms) s m args below meth c 4 (MQ below (zQ D tc post S sz) args s mc ms (zAd S sz)) S1 k n 11 [some (.ref b), some (.ref a), some (.ref t1), some (.int (nI z))] [] := by
    intro S1 t1 M1 k n e1 e2 e3 e4 e5 e6 e7 e8 e9 e10 e11 e12
    refine V.blk h [(.aload_n 2, 1), (.iload_n 3, 1), (.aload_n 1, 1)] (by decide +kernel) (pc' := 14) (ls' := [some (.ref b), some (.ref a), some (.ref t1), some (.int (nI z))]) (st' := [.ref a, .int (nI z), .ref t1]) rfl rfl (Nat.le_of_ble_eq_true rfl) ?_
    refine V.aast h 23 e3 e4 (by decide) rfl e5 e6 e7 q e8 e9 (Or.inr hC) (by decide +kernel) ?_
    refine V.blk h [(.aload_n 0, 1), (.iload_n 3, 1), (.iconst 1, 1), (.iadd, 1)] (by decide +kernel) (pc' := 19) (ls' := [some (.ref b), some (.ref a), some (.ref t1), some (.int (nI z))]) (st' := [.int (nI z + kI 1), .ref b]) rfl rfl (Nat.le_of_ble_eq_true rfl) ?_
    refine V.eq (st' := [.int (nI (z + 1)), .ref b]) rfl rfl (by rw [show kI 1 = nI 1 by decide, nI_add]) ?_
    refine V.putI (S := setR S1 t1 (va_up (zR S1 t1) z (some a))) h cls_0 (j := 2) rfl e1 e2 (Or.inl wf_RJx4a65c_48) rfl rfl rfl (by decide +kernel) ?_
    exact V.vret h hA hr e12 (by decide +kernel) e10 e11
  refine V.blk h [(.iload_n 3, 1), (.aload_n 2, 1)] (by decide +kernel) (pc' := 2) (ls' := [some (.ref b), some (.ref a), some (.ref t), some (.int (nI z))]) (st' := [.ref t, .int (nI z)]) rfl rfl (Nat.le_of_ble_eq_true rfl) ?_
  rcases Nat.lt_or_ge z M with hlt | hge
  · obtain ⟨h1, h2, h3, h4, h5, h6, h7⟩ := hL
    rcases h7 with ⟨hM0, -⟩ | ⟨h7, h8, h9, h10⟩
    · omega
    refine V.alen h 23 h8 h9 (by decide) h10 (by decide +kernel) ?_
    refine V.icmp_ne h (off := 8) (by decide +kernel) (tgt := 11) (by decide) (fun _ => ?_) (fun y => absurd ((nI_eq (by omega) (by omega)).mp y) (by omega))
    exact tail S t M _ _ h1 h2 h8 h9 h10 hlt (by omega) ha hka (Nat.zero_le _) (Nat.zero_le _) (hp1 hlt)
  · obtain rfl : z = M := by omega
    have h7 := hL.2.2.2.2.2.2
    rcases h7 with ⟨hM0, ht0⟩ | ⟨h7, h8, h9, h10⟩
    · subst hM0
      subst ht0
      refine V.alenE h (by decide +kernel) ?_
      refine V.icmp_ne h (off := 8) (by decide +kernel) (tgt := 11) (by decide) (fun y => absurd rfl y) (fun _ => ?_)
      refine V.blk h [(.aload_n 0, 1)] (by decide +kernel) (pc' := 7) (ls' := [some (.ref b), some (.ref a), some (.ref (tc 100)), some (.int (nI 0))]) (st' := [.ref b]) rfl rfl (Nat.le_of_ble_eq_true rfl) ?_
      refine V.callV h (np := 0) (st := []) (m_grow hls q hC (M := 0) hL hel (post := fun v S9 => ∃ r, r ∉ zL S ∧ v = some (.ref r) ∧ S9 = grS S b (tc 100) 0 r) (fun r h9 => ⟨r, h9, rfl, rfl⟩)) wc_Jx4a65c_grow_d5877 wn_RJx4a65c (Or.inl wm_RJx4a65c_129) wi_Jx4a65c_grow_d5877 we_Jx4a65c_grow_d5877 (by decide +kernel) rfl cls_0 hL.1 hL.2.1 (Nat.le_of_ble_eq_true rfl) (Nat.le_of_ble_eq_true rfl) (by show 0 + 1 ≤ mc; have := hmc rfl; omega) (by show 0 + gcap 0 ≤ ms; have := hms rfl; omega) (by simp [Value.category]) (by decide +kernel) rfl (fun v S9 q9 => ?_)
      obtain ⟨r, hr9, rfl, rfl⟩ := q9
      refine V.eq (st' := [.ref r]) rfl rfl rfl ?_
      refine V.blk h [(.astore_n 2, 1)] (by decide +kernel) (pc' := 11) (ls' := [some (.ref b), some (.ref a), some (.ref r), some (.int (nI 0))]) (st' := []) rfl rfl (Nat.le_of_ble_eq_true rfl) ?_
      obtain ⟨f1, f2, f3, f4, f5⟩ := hL.grow hr9
      have har : a ≠ r := fun y => hr9 (y ▸ ha)
      exact tail _ r (gcap 0) _ _ f1 f2 f3 f4 f5 (gcap_le hM).1 (by have := (gcap_le hM).2; omega) (List.mem_append_left _ ha) ((va_up_ne _ _ har).trans hka) (by show 0 + 1 ≤ mc; have := hmc rfl; omega) (by show 0 + gcap 0 ≤ ms; have := hms rfl; omega) (hp2 rfl r hr9)
    · refine V.alen h 23 h8 h9 (by decide) h10 (by decide +kernel) ?_
      refine V.icmp_ne h (off := 8) (by decide +kernel) (tgt := 11) (by decide) (fun y => absurd rfl y) (fun _ => ?_)
      refine V.blk h [(.aload_n 0, 1)] (by decide +kernel) (pc' := 7) (ls' := [some (.ref b), some (.ref a), some (.ref t), some (.int (nI z))]) (st' := [.ref b]) rfl rfl (Nat.le_of_ble_eq_true rfl) ?_
      refine V.callV h (np := 0) (st := []) (m_grow hls q hC (M := z) hL hel (post := fun v S9 => ∃ r, r ∉ zL S ∧ v = some (.ref r) ∧ S9 = grS S b t z r) (fun r h9 => ⟨r, h9, rfl, rfl⟩)) wc_Jx4a65c_grow_d5877 wn_RJx4a65c (Or.inl wm_RJx4a65c_129) wi_Jx4a65c_grow_d5877 we_Jx4a65c_grow_d5877 (by decide +kernel) rfl cls_0 hL.1 hL.2.1 (Nat.le_of_ble_eq_true rfl) (Nat.le_of_ble_eq_true rfl) (by show 0 + 1 ≤ mc; have := hmc rfl; omega) (by show 0 + gcap z ≤ ms; have := hms rfl; omega) (by simp [Value.category]) (by decide +kernel) rfl (fun v S9 q9 => ?_)
      obtain ⟨r, hr9, rfl, rfl⟩ := q9
      refine V.eq (st' := [.ref r]) rfl rfl rfl ?_
      refine V.blk h [(.astore_n 2, 1)] (by decide +kernel) (pc' := 11) (ls' := [some (.ref b), some (.ref a), some (.ref r), some (.int (nI z))]) (st' := []) rfl rfl (Nat.le_of_ble_eq_true rfl) ?_
      obtain ⟨f1, f2, f3, f4, f5⟩ := hL.grow hr9
      have har : a ≠ r := fun y => hr9 (y ▸ ha)
      exact tail _ r (gcap z) _ _ f1 f2 f3 f4 f5 (gcap_le hM).1 (by have := (gcap_le hM).2; omega) (List.mem_append_left _ ha) ((va_up_ne _ _ har).trans hka) (by show 0 + 1 ≤ mc; have := hmc rfl; omega) (by show 0 + gcap z ≤ ms; have := hms rfl; omega) (hp2 rfl r hr9)
/-- modCount is one more -/
def mcS (S : HS) (b : Nat) : HS := setI S 0 b (zI S 0 b + nI 1)
theorem mcS_2 (S : HS) (b x : Nat) : zI (mcS S b) 2 x = zI S 2 x := by
  show up2 (zI S) 0 b (zI S 0 b + nI 1) 2 x = _
  unfold up2
  rw [if_neg (fun y => absurd y.1 (by decide))]
theorem m_add {l : Launch} {D : va_G} {tc : Nat → ClassId} (hls : l.stackTraces = false) {ci NC : Nat} {C : String} {T : u_T} {ty : Nat → FieldType} (q : CLS ci C T NC ty) (hC : Cond.castable C "java/lang/Object" ∈ WK) {b t M z a mc ms : Nat} {S : HS} {post : Option Value → HS → Prop} (hL : LX tc S b t M z) (hel : ∀ i y, i < z → zR S t i = some y → y ∈ zL S ∧ zK S y = ci) (ha : a ∈ zL S) (hka : zK S a = ci) (hmc : z = M → 1 ≤ mc) (hms : z = M → gcap M ≤ ms) (hp1 : z < M → post (some (.int (nI 1))) (adS (mcS S b) b t a z)) (hp2 : z = M → ∀ r, r ∉ zL S → post (some (.int (nI 1))) (adS (grS (mcS S b) b t M r) b r a z)) : CM l D tc yJx4a65c_add_9ea2d cJx4a65c_add_9ea2d 2 (some .boolean) 6 mc ms [.ref b, .ref a] S post := by
  refine CM.of hls (by decide +kernel) (by simp [Value.category]) (Nat.le_of_ble_eq_true rfl) (fun A0 p e9 s m args below meth c sz h hr hnm hA => ?_)
  refine V.blk h [(.aload_n 0, 1), (.dup, 1)] (by decide +kernel) (pc' := 2) (ls' := [some (.ref b), some (.ref a)]) (st' := [.ref b, .ref b]) rfl rfl (Nat.le_of_ble_eq_true rfl) ?_
  refine V.getMC h hL.1 hL.2.1 (by decide +kernel) ?_
  refine V.blk h [(.iconst 1, 1), (.iadd, 1)] (by decide +kernel) (pc' := 7) (ls' := [some (.ref b), some (.ref a)]) (st' := [.int (zI S 0 b + nI 1), .ref b]) rfl rfl (Nat.le_of_ble_eq_true rfl) ?_
  refine V.putMC h hL.1 hL.2.1 (by decide +kernel) ?_
  refine V.eq (S' := mcS S b) rfl rfl rfl ?_
  have hL1 : LX tc (mcS S b) b t M z := hL.mc _
  refine V.blk h [(.aload_n 0, 1), (.aload_n 1, 1), (.aload_n 0, 1)] (by decide +kernel) (pc' := 13) (ls' := [some (.ref b), some (.ref a)]) (st' := [.ref b, .ref a, .ref b]) rfl rfl (Nat.le_of_ble_eq_true rfl) ?_
  refine V.getP h cls_0 (j := 1) rfl hL1.1 hL1.2.1 (Or.inl wf_RJx4a65c_9) (by decide +kernel) hL1.2.2.1 ?_
  refine V.eq (st' := [.ref t, .ref a, .ref b]) rfl rfl rfl ?_
  refine V.blk h [(.aload_n 0, 1)] (by decide +kernel) (pc' := 17) (ls' := [some (.ref b), some (.ref a)]) (st' := [.ref b, .ref t, .ref a, .ref b]) rfl rfl (Nat.le_of_ble_eq_true rfl) ?_
  refine V.getI h cls_0 (j := 2) rfl hL1.1 hL1.2.1 (Or.inl wf_RJx4a65c_48) (by decide +kernel) hL1.2.2.2.1 ?_
  refine V.callV h (np := 3) (st := []) (m_add3 hls q hC hL1 hel ha hka hmc hms (post := fun v S9 => v = none ∧ post (some (.int (nI 1))) S9) (fun y => ⟨rfl, hp1 y⟩) (fun y r h9 => ⟨rfl, hp2 y r h9⟩)) wc_Jx4a65c_add_72be8 wn_RJx4a65c (Or.inl wm_RJx4a65c_131) wi_Jx4a65c_add_72be8 we_Jx4a65c_add_72be8 (by decide +kernel) rfl cls_0 hL1.1 hL1.2.1 (Nat.le_of_ble_eq_true rfl) (Nat.le_of_ble_eq_true rfl) (by show 0 + mc ≤ mc; omega) (by show 0 + ms ≤ ms; omega) (by simp [Value.category]) (by decide +kernel) rfl (fun v S9 q9 => ?_)
  obtain ⟨rfl, q9⟩ := q9
  refine V.blk h [(.iconst 1, 1)] (by decide +kernel) (pc' := 24) (ls' := [some (.ref b), some (.ref a)]) (st' := [.int (nI 1)]) rfl rfl (Nat.le_of_ble_eq_true rfl) ?_
  exact V.iret h hA hr (by decide) q9 (by decide +kernel) (by show 0 + mc ≤ mc; omega) (by show 0 + ms ≤ ms; omega)
def rmR (f : Nat → Option Nat) (i z : Nat) : Nat → Option Nat := fun j => if j < i then f j else if j + 1 < z then f (j + 1) else if j + 1 = z then none else f j
def rmS (S : HS) (b t i z : Nat) : HS := setR (setI (mcS S b) 2 b (nI (z - 1))) t (rmR (zR S t) i z)
theorem rmR_1 (f : Nat → Option Nat) {i z : Nat} (h : i + 1 = z) : va_up f (z - 1) none = rmR f i z := by
  funext j
  unfold rmR
  by_cases y : j = z - 1
  · subst y
    rw [va_up_self, if_neg (by omega), if_neg (by omega), if_pos (by omega)]
  · rw [va_up_ne _ _ y]
    by_cases w : j < i
    · rw [if_pos w]
    · rw [if_neg w, if_neg (by omega), if_neg (by omega)]
theorem rmR_2 (f : Nat → Option Nat) {i z : Nat} (h : i + 1 < z) : va_up (va_cpy f f (i + 1) i (z - 1 - i)) (z - 1) none = rmR f i z := by
  funext j
  unfold rmR
  by_cases y : j = z - 1
  · subst y
    rw [va_up_self, if_neg (by omega), if_neg (by omega), if_pos (by omega)]
  · rw [va_up_ne _ _ y]
    unfold va_cpy
    by_cases w : j < i
    · rw [if_pos w, if_neg (by omega)]
    · rw [if_neg w]
      by_cases x : j + 1 < z
      · rw [if_pos x, if_pos (by omega)]
        congr 1
        omega
      · rw [if_neg x, if_neg (by omega), if_neg (by omega)]
theorem m_fastRemove {l : Launch} {D : va_G} {tc : Nat → ClassId} (hls : l.stackTraces = false) {ci NC : Nat} {C : String} {T : u_T} {ty : Nat → FieldType} (q : CLS ci C T NC ty) (hC : Cond.castable C "java/lang/Object" ∈ WK) {b t M z i : Nat} {S : HS} {post : Option Value → HS → Prop} (hL : LO S b t M z) (hel : ∀ i y, i < z → zR S t i = some y → y ∈ zL S ∧ zK S y = ci) (hi : i < z) (hM : M < 1000) (hp : post none (rmS S b t i z)) : CM l D tc yJx4a65c_fastRemove_b59b0 cJx4a65c_fastRemove_b59b0 4 none 1 0 0 [.ref b, .ref t, .int (nI i)] S post := by
  obtain ⟨h1, h2, h3, h4, h5, h6, h7, h8, h9⟩ := hL
  refine CM.of hls (by decide +kernel) (by simp [Value.category]) (Nat.le_of_ble_eq_true rfl) (fun A0 p e9 s m args below meth c sz h hr hnm hA => ?_)
  refine V.blk h [(.aload_n 0, 1), (.dup, 1)] (by decide +kernel) (pc' := 2) (ls' := [some (.ref b), some (.ref t), some (.int (nI i)), none]) (st' := [.ref b, .ref b]) rfl rfl (Nat.le_of_ble_eq_true rfl) ?_
  refine V.getMC h h1 h2 (by decide +kernel) ?_
  refine V.blk h [(.iconst 1, 1), (.iadd, 1)] (by decide +kernel) (pc' := 7) (ls' := [some (.ref b), some (.ref t), some (.int (nI i)), none]) (st' := [.int (zI S 0 b + nI 1), .ref b]) rfl rfl (Nat.le_of_ble_eq_true rfl) ?_
  refine V.putMC h h1 h2 (by decide +kernel) ?_
  refine V.eq (S' := mcS S b) rfl rfl rfl ?_
  refine V.blk h [(.aload_n 0, 1)] (by decide +kernel) (pc' := 11) (ls' := [some (.ref b), some (.ref t), some (.int (nI i)), none]) (st' := [.ref b]) rfl rfl (Nat.le_of_ble_eq_true rfl) ?_
  refine V.getI (S := mcS S b) h cls_0 (j := 2) rfl h1 h2 (Or.inl wf_RJx4a65c_48) (by decide +kernel) ((mcS_2 S b b).trans h4) ?_
  refine V.blk h [(.iconst 1, 1), (.isub, 1)] (by decide +kernel) (pc' := 16) (ls' := [some (.ref b), some (.ref t), some (.int (nI i)), none]) (st' := [.int (nI z - kI 1)]) rfl rfl (Nat.le_of_ble_eq_true rfl) ?_
  refine V.eq (st' := [.int (nI (z - 1))]) rfl rfl (by rw [show kI 1 = nI 1 by decide, pk_sub (show 1 ≤ z by omega)]) ?_
  refine V.blk h [(.dup, 1), (.istore_n 3, 1), (.iload_n 2, 1)] (by decide +kernel) (pc' := 19) (ls' := [some (.ref b), some (.ref t), some (.int (nI i)), some (.int (nI (z - 1)))]) (st' := [.int (nI i), .int (nI (z - 1))]) rfl rfl (Nat.le_of_ble_eq_true rfl) ?_
  have tail : ∀ (f : Nat → Option Nat), va_up f (z - 1) none = rmR (zR S t) i z → V l D tc A0 p e9 (rmd 1 0 0) s m args below meth c 4 (MQ below (zQ D tc post S sz) args s 0 0 (zAd S sz)) (setR (mcS S b) t f) 0 0 34 [some (.ref b), some (.ref t), some (.int (nI i)), some (.int (nI (z - 1)))] [] := by
    intro f hf
    refine V.blk h [(.aload_n 1, 1), (.aload_n 0, 1), (.iload_n 3, 1), (.dup_x1, 1)] (by decide +kernel) (pc' := 38) (ls' := [some (.ref b), some (.ref t), some (.int (nI i)), some (.int (nI (z - 1)))]) (st' := [.int (nI (z - 1)), .ref b, .int (nI (z - 1)), .ref t]) rfl rfl (Nat.le_of_ble_eq_true rfl) ?_
    refine V.putI (S := setR (mcS S b) t f) h cls_0 (j := 2) rfl h1 h2 (Or.inl wf_RJx4a65c_48) rfl rfl rfl (by decide +kernel) ?_
    refine V.blk h [(.aconst_null, 1)] (by decide +kernel) (pc' := 42) (ls' := [some (.ref b), some (.ref t), some (.int (nI i)), some (.int (nI (z - 1)))]) (st' := [.null, .int (nI (z - 1)), .ref t]) rfl rfl (Nat.le_of_ble_eq_true rfl) ?_
    refine V.aastN (S := setI (setR (mcS S b) t f) (64 * 0 + 2) b (nI (z - 1))) h 23 h5 h6 (by decide) rfl (M := M) h7 (i := z - 1) (by omega) (by omega) (by decide +kernel) ?_
    refine V.eq (S' := rmS S b t i z) ?_ rfl rfl ?_
    · have e1 : zR (setI (setR (mcS S b) t f) (64 * 0 + 2) b (nI (z - 1))) t = f := va_up_self _ _ _
      rw [e1, hf]
      exact (setR_setR (S := setI (mcS S b) 2 b (nI (z - 1))) (f := f)).symm
    · exact V.vret h hA hr hp (by decide +kernel) (Nat.le_refl _) (Nat.le_refl _)
  refine V.icmp_le h (off := 15) (by decide +kernel) (tgt := 34) (by decide) (fun y => ?_) (fun y => ?_)
  · have y1 := (nI_leI (by omega) (by omega)).mp y
    have e1 : setR (mcS S b) t (zR S t) = mcS S b := by
      show (zL S, zK S, zI (mcS S b), zP S, zN S, zA S, va_up (zR S) t (zR S t), zJ S) = mcS S b
      have : va_up (zR S) t (zR S t) = zR S := by
        funext x
        by_cases w : x = t
        · subst w; rw [va_up_self]
        · rw [va_up_ne _ _ w]
      rw [this]
      rfl
    have := tail (zR S t) (rmR_1 _ (by omega))
    rw [e1] at this
    exact this
  · have y1 : ¬ z - 1 ≤ i := fun w => y ((nI_leI (by omega) (by omega)).mpr w)
    refine V.blk h [(.aload_n 1, 1), (.iload_n 2, 1), (.iconst 1, 1), (.iadd, 1)] (by decide +kernel) (pc' := 26) (ls' := [some (.ref b), some (.ref t), some (.int (nI i)), some (.int (nI (z - 1)))]) (st' := [.int (nI i + kI 1), .ref t]) rfl rfl (Nat.le_of_ble_eq_true rfl) ?_
    refine V.eq (st' := [.int (nI (i + 1)), .ref t]) rfl rfl (by rw [show kI 1 = nI 1 by decide, nI_add]) ?_
    refine V.blk h [(.aload_n 1, 1), (.iload_n 2, 1), (.iload_n 3, 1), (.iload_n 2, 1), (.isub, 1)] (by decide +kernel) (pc' := 31) (ls' := [some (.ref b), some (.ref t), some (.int (nI i)), some (.int (nI (z - 1)))]) (st' := [.int (nI (z - 1) - nI i), .int (nI i), .ref t, .int (nI (i + 1)), .ref t]) rfl rfl (Nat.le_of_ble_eq_true rfl) ?_
    refine V.eq (st' := [.int (nI (z - 1 - i)), .int (nI i), .ref t, .int (nI (i + 1)), .ref t]) rfl rfl (by rw [pk_sub (show i ≤ z - 1 by omega)]) ?_
    refine V.copyq (S := mcS S b) h wm_RJx4a65c_112 q hC (M := M) (N := M) h5 h6 h7 h5 h6 h7 (by omega) (by omega) (by omega) (by omega) (fun x y hx hy => hel (i + 1 + x) y (by omega) hy) (by decide +kernel) (Nat.le_of_ble_eq_true rfl) (Nat.le_of_ble_eq_true rfl) ?_
    exact tail _ (rmR_2 (zR S t) (by omega))
theorem m_remove {l : Launch} {D : va_G} {tc : Nat → ClassId} (hls : l.stackTraces = false) {ci NC : Nat} {C : String} {T : u_T} {ty : Nat → FieldType} (q : CLS ci C T NC ty) (hC : Cond.castable C "java/lang/Object" ∈ WK) {b t M z i o : Nat} {S : HS} {post : Option Value → HS → Prop} (hL : LO S b t M z) (hel : ∀ i y, i < z → zR S t i = some y → y ∈ zL S ∧ zK S y = ci) (hi : i < z) (hM : M < 1000) (ho : zR S t i = some o) (hp : post (some (.ref o)) (rmS S b t i z)) : CM l D tc yJx4a65c_remove_915e3 cJx4a65c_remove_915e3 4 (some (.object "java/lang/Object")) 2 0 0 [.ref b, .int (nI i)] S post := by
  have hL0 := hL
  obtain ⟨h1, h2, h3, h4, h5, h6, h7, h8, h9⟩ := hL
  refine CM.of hls (by decide +kernel) (by simp [Value.category]) (Nat.le_of_ble_eq_true rfl) (fun A0 p e9 s m args below meth c sz h hr hnm hA => ?_)
  refine V.blk h [(.iload_n 1, 1), (.aload_n 0, 1)] (by decide +kernel) (pc' := 2) (ls' := [some (.ref b), some (.int (nI i)), none, none]) (st' := [.ref b, .int (nI i)]) rfl rfl (Nat.le_of_ble_eq_true rfl) ?_
  refine V.getI h cls_0 (j := 2) rfl h1 h2 (Or.inl wf_RJx4a65c_48) (by decide +kernel) h4 ?_
  refine V.callS h (np := 2) (st := []) (m_check2 hls hi (by omega) (post := fun v S9 => v = some (.int (nI i)) ∧ S = S9) ⟨rfl, rfl⟩) wc_J15_checkIndex_7cf53 wn_RJ15 (Or.inl wm_RJx4a65c_118) wt_J15_checkIndex_7cf53 (by decide +kernel) rfl (Nat.le_of_ble_eq_true rfl) (Nat.le_of_ble_eq_true rfl) (by decide) (by decide) (by simp [Value.category]) (by decide +kernel) rfl (fun v S9 q9 => ?_)
  obtain ⟨rfl, hS9⟩ := q9
  subst hS9
  refine V.blk h [(.pop, 1), (.aload_n 0, 1)] (by decide +kernel) (pc' := 10) (ls' := [some (.ref b), some (.int (nI i)), none, none]) (st' := [.ref b]) rfl rfl (Nat.le_of_ble_eq_true rfl) ?_
  refine V.getP h cls_0 (j := 1) rfl h1 h2 (Or.inl wf_RJx4a65c_9) (by decide +kernel) h3 ?_
  refine V.eq (st' := [.ref t]) rfl rfl rfl ?_
  refine V.blk h [(.astore_n 2, 1), (.aload_n 2, 1), (.iload_n 1, 1)] (by decide +kernel) (pc' := 16) (ls' := [some (.ref b), some (.int (nI i)), some (.ref t), none]) (st' := [.int (nI i), .ref t]) rfl rfl (Nat.le_of_ble_eq_true rfl) ?_
  refine V.aald h 23 h5 h6 (by decide) rfl h7 (by omega) h9 (by decide +kernel) ho ?_
  refine V.eq (st' := [.ref o]) rfl rfl rfl ?_
  refine V.blk h [(.astore_n 3, 1), (.aload_n 0, 1), (.aload_n 2, 1), (.iload_n 1, 1)] (by decide +kernel) (pc' := 21) (ls' := [some (.ref b), some (.int (nI i)), some (.ref t), some (.ref o)]) (st' := [.int (nI i), .ref t, .ref b]) rfl rfl (Nat.le_of_ble_eq_true rfl) ?_
  refine V.callV h (np := 2) (st := []) (m_fastRemove hls q hC hL0 hel hi hM (post := fun v S9 => v = none ∧ rmS S b t i z = S9) ⟨rfl, rfl⟩) wc_Jx4a65c_fastRemove_b59b0 wn_RJx4a65c (Or.inl wm_RJx4a65c_144) wi_Jx4a65c_fastRemove_b59b0 we_Jx4a65c_fastRemove_b59b0 (by decide +kernel) rfl cls_0 h1 h2 (Nat.le_of_ble_eq_true rfl) (Nat.le_of_ble_eq_true rfl) (by decide) (by decide) (by simp [Value.category]) (by decide +kernel) rfl (fun v S9 q9 => ?_)
  obtain ⟨rfl, hS9⟩ := q9
  subst hS9
  refine V.blk h [(.aload_n 3, 1)] (by decide +kernel) (pc' := 25) (ls' := [some (.ref b), some (.int (nI i)), some (.ref t), some (.ref o)]) (st' := [.ref o]) rfl rfl (Nat.le_of_ble_eq_true rfl) ?_
  exact V.aret h hA hr (o := some o) (Or.inl ⟨_, rfl⟩) hp (by decide +kernel) (Nat.le_refl _) (Nat.le_refl _)
theorem m_clear0 {l : Launch} {D : va_G} {tc : Nat → ClassId} (hls : l.stackTraces = false) {b : Nat} {S : HS} {post : Option Value → HS → Prop} (hL : LX tc S b (tc 100) 0 0) (hp : post none (clA S b)) : CM l D tc yJx4a65c_clear_da8c8 cJx4a65c_clear_da8c8 4 none 0 0 0 [.ref b] S post := by
  obtain ⟨h1, h2, h3, h4, h5, h6, h7⟩ := hL
  refine CM.of hls (by decide +kernel) (by simp [Value.category]) (Nat.le_of_ble_eq_true rfl) (fun A0 p e9 s m args below meth c sz h hr hnm hA => ?_)
  refine V.blk h [(.aload_n 0, 1), (.dup, 1)] (by decide +kernel) (pc' := 2) (ls' := [some (.ref b), none, none, none]) (st' := [.ref b, .ref b]) rfl rfl (Nat.le_of_ble_eq_true rfl) ?_
  refine V.getMC h h1 h2 (by decide +kernel) ?_
  refine V.blk h [(.iconst 1, 1), (.iadd, 1)] (by decide +kernel) (pc' := 7) (ls' := [some (.ref b), none, none, none]) (st' := [.int (zI S 0 b + nI 1), .ref b]) rfl rfl (Nat.le_of_ble_eq_true rfl) ?_
  refine V.putMC h h1 h2 (by decide +kernel) ?_
  refine V.eq (S' := mcS S b) rfl rfl rfl ?_
  refine V.blk h [(.aload_n 0, 1)] (by decide +kernel) (pc' := 11) (ls' := [some (.ref b), none, none, none]) (st' := [.ref b]) rfl rfl (Nat.le_of_ble_eq_true rfl) ?_
  refine V.getP (S := mcS S b) h cls_0 (j := 1) rfl h1 h2 (Or.inl wf_RJx4a65c_9) (by decide +kernel) (v := some (tc 100)) h3 ?_
  refine V.eq (st' := [.ref (tc 100)]) rfl rfl rfl ?_
  refine V.blk h [(.astore_n 1, 1), (.aload_n 0, 1)] (by decide +kernel) (pc' := 16) (ls' := [some (.ref b), some (.ref (tc 100)), none, none]) (st' := [.ref b]) rfl rfl (Nat.le_of_ble_eq_true rfl) ?_
  refine V.getI (S := mcS S b) h cls_0 (j := 2) rfl h1 h2 (Or.inl wf_RJx4a65c_48) (by decide +kernel) ((mcS_2 S b b).trans h4) ?_
  refine V.blk h [(.istore_n 2, 1), (.aload_n 0, 1), (.iconst 0, 1), (.dup_x1, 1)] (by decide +kernel) (pc' := 23) (ls' := [some (.ref b), some (.ref (tc 100)), some (.int (nI 0)), none]) (st' := [.int (nI 0), .ref b, .int (nI 0)]) rfl rfl (Nat.le_of_ble_eq_true rfl) ?_
  refine V.putI (S := mcS S b) h cls_0 (j := 2) rfl h1 h2 (Or.inl wf_RJx4a65c_48) rfl rfl rfl (by decide +kernel) ?_
  refine V.eq (S' := clA S b) rfl rfl rfl ?_
  refine V.blk h [(.istore_n 3, 1), (.iload_n 3, 1), (.iload_n 2, 1)] (by decide +kernel) (pc' := 29) (ls' := [some (.ref b), some (.ref (tc 100)), some (.int (nI 0)), some (.int (nI 0))]) (st' := [.int (nI 0), .int (nI 0)]) rfl rfl (Nat.le_of_ble_eq_true rfl) ?_
  refine V.icmp_ge h (off := 13) (by decide +kernel) (tgt := 42) (by decide) (fun _ => ?_) (fun y => absurd (by decide) y)
  exact V.vret h hA hr hp (by decide +kernel) (Nat.le_refl _) (Nat.le_refl _)
